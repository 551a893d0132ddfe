import java.util.Random;

/** No call ever throws or answers what can't be, for any arguments in any state, with any bytes on the tape. */
public final class WildTest {
    private static final String[] PIECES = {"hall", "person", "keeps", "itches", "for", "judge", "rogue", "nobody", "at", "hates",
        "point", "noise", "seat", "loud", "mute", "costs", "weigh", "cough", "near", "hated", "asked", "minute", "number", "party",
        "or", "and", "not", "all", "min", "max", "beside", "first", "last", "often", "total", "most", "least", "a", "b", "abcdefg",
        ";", "(", ")", "[", "]", ",", "+", "-", "*", "/", "<", ">", "=", "0", "1", "3", "99", "12345", " ", "\n", "%", "A"};
    private static final String GOOD = "hall 4;person a keeps 20 itches 50 for judge at 0;person b keeps 30 itches 0 for rogue at 1;"
            + "mute m keeps 9 costs 1;point p judge 1 rogue 2;hates a m;noise at 0 seat 3 loud 4;weigh min(keeps,(seat+3)*4)/2-near;cough 7;";
    private static final String QUESTION = "often not [keeps+2*(3-seat)<min(4,5) or beside 1=1] and all";

    private WildTest() {
    }

    public static void main(String[] args) {
        Random chance = new Random(20);
        for (int run = 0; run < 1500; run++) {
            SilentCourt x = run % 5 == 0 ? new SilentCourt() : Due.court(GOOD);
            for (int k = 0; k < 60; k++) {
                text(chance, x);
                calls(chance, x);
            }
        }
        cutShort();
        longOnes();
        Due.end();
    }

    private static int any(Random chance) {
        switch (chance.nextInt(6)) {
            case 0: return chance.nextInt();
            case 1: return chance.nextBoolean() ? Integer.MAX_VALUE : Integer.MIN_VALUE;
            default: return chance.nextInt(20) - 4;
        }
    }

    private static void text(Random chance, SilentCourt x) {
        StringBuilder text = new StringBuilder(chance.nextBoolean() ? GOOD : QUESTION);
        int changes = chance.nextInt(4);
        for (int k = 0; k < changes; k++) {
            int at = chance.nextInt(text.length() + 1);
            int to = Math.min(text.length(), at + chance.nextInt(5));
            text.replace(at, to, PIECES[chance.nextInt(PIECES.length)]);
        }
        text.setLength(Math.min(text.length(), 1600));
        Due.tape(x, text.toString());
        boolean ofHall = chance.nextBoolean();
        long got = ofHall ? x.hall() : x.ask();
        if (ofHall || got != SilentCourt.NOTHING) {
            boolean fault = x.fault(0) != 0;
            Due.is("a fault has a place in " + text, x.fault(1) >= 0 && x.fault(1) <= text.length(), fault);
            Due.is("a fault is told in " + text, got == (ofHall ? SilentCourt.NONE : SilentCourt.NOTHING), fault);
        }
    }

    private static void calls(Random chance, SilentCourt x) {
        int a = any(chance);
        int b = any(chance);
        int c = any(chance);
        int d = any(chance);
        switch (chance.nextInt(30)) {
            case 0: x.feed(a, b, c, d, a); break;
            case 1: x.end(a); break;
            case 2: x.hall(); break;
            case 3: x.fault(a); break;
            case 4: x.has(a); break;
            case 5: x.letter(a, b, c); break;
            case 6: x.sits(a, b); break;
            case 7: x.seat(a); break;
            case 8: x.mute(a, b); break;
            case 9: x.noise(a, b); break;
            case 10: x.kept(a, b); break;
            case 11: x.mean(a); break;
            case 12: x.odds(a); break;
            case 13: x.hire(a, b, c, d); break;
            case 14: x.change(a, b); break;
            case 15: x.points(a, b); break;
            case 16: x.fell(a, b); break;
            case 17: x.asked(a, b); break;
            case 18: x.loudest(a); break;
            case 19: x.minutes(a); break;
            case 20: x.point(a); break;
            case 21: x.move(a, b); break;
            case 22: x.take(a, b, c); break;
            case 23: x.dismiss(a); break;
            case 24: x.undo(); break;
            case 25: x.seed(a); break;
            case 26: x.ask(); break;
            case 27: x.image(); break;
            case 28: x.on(); break;
            default: x.octet(a + x.status(b));
        }
        Due.is("the scale can be", Math.abs(x.scale()) <= 99999, true);
        Due.is("the minute can be", x.has(6) >= 0 && x.has(6) <= 999, true);
    }

    /** A text that ends too soon is at fault at its end, or at the word or number that is cut. */
    private static void cutShort() {
        for (int length = 0; length < GOOD.length(); length++) {
            SilentCourt x = new SilentCourt();
            int got = Due.hall(x, GOOD.substring(0, length));
            boolean whole = length > 0 && GOOD.charAt(length - 1) == ';';
            Due.is("cut at " + length, got != SilentCourt.NONE, whole);
            if (!whole) {
                int start = length;
                while (start > 0 && Character.isLetterOrDigit(GOOD.charAt(start - 1))) {
                    start--;
                }
                Due.is("cut at " + length + ", fault at " + x.fault(1), x.fault(1) == length || x.fault(1) == start, true);
            }
        }
    }

    /** The longest SUMS, with the most steps. */
    private static void longOnes() {
        StringBuilder text = new StringBuilder("hall 2;person a keeps 1 itches 0 for judge at 0;weigh 1");
        while (text.length() < 1597) {
            text.append("+1");
        }
        int ones = (text.length() - text.indexOf("weigh")) / 2 - 2;
        SilentCourt x = Due.court(text + ";");
        Due.is("a long sum", x.sits(0, 6), ones);
        Due.is("its mean", x.mean(200), 20000L * ones);
        StringBuilder question = new StringBuilder("often all");
        while (question.length() < 1590) {
            question.append(" or all");
        }
        Due.is("a long test", Due.ask(x, question.toString()), 1);
        StringBuilder deep = new StringBuilder("total 1");
        for (int k = 0; k < 40; k++) {
            deep.append("-2*min(3,1+2*min(3,1+2*min(3,1)))");
        }
        Due.is("a deep sum", Due.ask(x, deep.toString()), 1 - 40 * 2 * 3);
    }
}
