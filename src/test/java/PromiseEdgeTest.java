/** Promises 1 to 33: each of their sentences that names a boundary case, with a test of its own. */
public final class PromiseEdgeTest {
    private static final int NONE = SilentCourt.NONE;
    private static final long NOTHING = SilentCourt.NOTHING;
    private static final int LEAST = Integer.MIN_VALUE;
    private static final int MOST = Integer.MAX_VALUE;
    private static final int[] FAR = {LEAST, LEAST + 1, -1000, -2, -1, 1000000, MOST - 1, MOST};
    private static final String HALL = "hall 5;person jan keeps 10 itches 20 for judge at 0;"
            + "person rob keeps 12 itches 50 for rogue at 2;person ned keeps 5 itches 10 for nobody at 4;"
            + "point why judge 4 rogue 1;point who judge 0 rogue 7;noise at 1 seat 1 loud 3;"
            + "mute mim keeps 8 costs 9;mute mum keeps 3 costs 2;hates jan rob;hates mim rob;"
            + "weigh keeps+asked-noise-hated*3;cough 6;";
    private static final int HALL_PEOPLE = 3;

    private PromiseEdgeTest() {
    }

    public static void main(String[] args) {
        newObject();
        feed();
        end();
        hallRefused();
        hallTaken();
        fault();
        has();
        scale();
        letter();
        sits();
        seat();
        mute();
        noise();
        kept();
        mean();
        odds();
        hire();
        change();
        points();
        fell();
        asked();
        loudest();
        minutes();
        point();
        move();
        take();
        dismiss();
        undo();
        seed();
        ask();
        image();
        octet();
        onTaken();
        onRefused();
        status();
        String[] parts = new String[33];
        for (int k = 0; k < 33; k++) {
            parts[k] = "Promise " + (k + 1);
        }
        Due.named(parts);
        Due.end();
    }

    private static void by(int promise, String sentence) {
        Due.by("Promise " + promise, sentence);
    }

    /** All that a refused call leaves as it is, but for the tape and the refusals. */
    private static String all(SilentCourt court) {
        StringBuilder told = new StringBuilder();
        for (int what = 0; what <= 10; what++) {
            told.append(court.has(what)).append(' ');
        }
        for (int seat = 0; seat < 9; seat++) {
            told.append(court.seat(seat)).append(' ');
        }
        for (int mute = 10; mute < 12; mute++) {
            told.append(court.sits(mute, 1)).append(' ');
        }
        return told.append(court.scale()).append(' ').append(court.kept(0, 0)).append(' ').append(court.mean(1)).toString();
    }

    private static void stays(SilentCourt court, String before) {
        String now = all(court);
        Due.is("all stays: " + before + " is now " + now, now.equals(before), true);
    }

    private static SilentCourt at(int minute) {
        SilentCourt court = Due.court(HALL);
        Due.is("the image is taken",
                Due.on(court, Due.sealed(minute / 256, minute % 256, 1, 134, 160, 0, 0, 2, 4, 0, 0, 0, 0)), true);
        return court;
    }

    // ---- the tape, the hall

    private static void newObject() {
        by(1, "No hall, nobody.");
        SilentCourt x = new SilentCourt();
        for (int what = 0; what <= 10; what++) {
            Due.is("has " + what, x.has(what), what == 7 ? NONE : 0);
        }
        for (int k = -1; k < 17; k++) {
            Due.is("seat " + k, x.seat(k), NONE);
            Due.is("sits " + k, x.sits(k, 0), NONE);
        }
        Due.is("letter", x.letter(0, 0, 0) + x.letter(1, 0, 0) + x.letter(2, 0, 0), 3 * NONE);
        Due.is("mute", x.mute(0, 0), NONE);
        Due.is("noise", x.noise(0, 0), NONE);
        Due.is("kept", x.kept(0, 0), NONE);
        Due.is("octet", x.octet(0), NONE);
        Due.is("scale", x.scale(), 0);
        Due.is("mean", x.mean(200), 0);
        Due.is("odds", x.odds(2), 1000000);
        Due.is("change", x.change(0, 0), NONE);
        Due.is("points", x.points(1, NONE), NOTHING);
        Due.is("loudest", x.loudest(1), NONE);
        Due.is("nothing to undo", x.undo(), false);
        Due.is("nothing on the tape", x.end(1), false);
    }

    private static void feed() {
        SilentCourt x = new SilentCourt();
        by(2, "Twenty bytes come behind those on the tape, of each number the highest first: how many there are;");
        Due.is("twenty", x.feed(0x68616c6c, 0x20363b20, 0x0a202020, 0x20202020, 0x20202020), 20);
        Due.is("behind those", x.feed(0x77656967, 0x6820ff00, 0x80000001, -1, LEAST), 40);
        Due.is("the bytes", x.hall(), NONE);
        Due.is("up to the first that can't be", x.fault(1), 26);
        by(2, "NONE, refused (0), if there would be more than 1600.");
        for (int k = 1; k <= 80; k++) {
            Due.is("up to 1600", x.feed(0x20202020, 0x20202020, 0x20202020, 0x20202020, 0x20202020), 20 * k);
        }
        Due.is("none is refused", x.status(0), 0);
        Due.is("more", x.feed(0, 0, 0, 0, 0), NONE);
        Due.is("refused", x.status(0), 1);
        x.end(1581);
        Due.is("one more", x.feed(0, 0, 0, 0, 0), NONE);
        Due.is("none of them comes", x.end(1582), false);
        Due.is("refused", x.status(0), 3);
        x.end(1580);
        Due.is("just 1600", x.feed(0x20202020, 0x20202020, 0x20202020, 0x2068616c, 0x6c20343b), 1600);
        Due.is("all of them are read", x.hall(), 1);
        Due.is("all of them are read", x.has(0), 4);
    }

    private static void end() {
        SilentCourt x = new SilentCourt();
        by(3, "The tape has its first n bytes alone: true;");
        x.feed(0x68616c6c, 0x20363b71, 0, 0, 0);
        Due.is("all", x.end(20), true);
        Due.is("the first seven", x.end(7), true);
        Due.is("alone", x.hall(), 1);
        // a number and a word that went on behind the end do so no more
        x.feed(0x68616c6c, 0x2032323b, 0, 0, 0);
        x.end(6);
        Due.is("hall 2, of hall 22;", x.hall(), NONE);
        Due.is("ends too soon, but is no number that can't be", x.fault(0), 1);
        Due.is("at its length", x.fault(1), 6);
        x.feed(0x6f667465, 0x6e20616c, 0x6c730000, 0, 0);
        x.end(9);
        Due.is("often all, of often alls", x.ask(), 0);
        Due.is("a word up to the end of a full tape", Due.ask(x, " ".repeat(1591) + "often all"), 0);
        Due.is("a number up to the end of a full tape", Due.ask(x, " ".repeat(1590) + "total 9999"), 0);
        Due.is("none of none", x.end(0), true);
        x.feed(0, 0, 0, 0, 0);
        Due.is("none", x.end(0), true);
        Due.is("anew from there", x.feed(0, 0, 0, 0, 0), 20);
        by(3, "false, refused (0), if it has not so many, or n is below 0.");
        Due.is("one more", x.end(21), false);
        Due.is("far more", x.end(MOST), false);
        Due.is("below", x.end(-1), false);
        Due.is("far below", x.end(LEAST), false);
        Due.is("refused", x.status(0), 4);
        Due.is("the tape stays", x.feed(0, 0, 0, 0, 0), 40);
        x.end(5);
        Due.is("what is gone does not come again", x.end(6), false);
    }

    private static void hallRefused() {
        SilentCourt x = Due.court(HALL);
        x.take(1, 1, 3);
        x.point(1);
        x.minutes(50);
        x.image();
        String before = all(x);
        by(4, "NONE, refused (1), with a FAULT (all stays;");
        Due.is("a fault in its last byte", Due.hall(x, "hall 9;person a keeps 1 itches 0 for judge at 8;weigh 1,"), NONE);
        Due.is("refused", x.status(1), 1);
        stays(x, before);
        Due.is("the names stay", x.letter(0, 0, 0), 10);
        Due.is("the sums stay", x.sits(0, 7), 6);
        Due.is("the image stays", x.octet(0) + x.octet(1), 50);
        Due.is("what can be undone stays", x.undo(), true);
        Due.is("what can be undone stays", x.has(6), 0);
        Due.is("it goes, with a fault, too", x.end(1), false);
        by(4, "one without a STATEMENT has FAULT 1 at its length)");
        for (int blanks : new int[] {0, 1, 2, 19, 1600}) {
            Due.is("blanks", Due.hall(x, " ".repeat(blanks)), NONE);
            Due.is("fault", x.fault(0), 1);
            Due.is("at its length", x.fault(1), blanks);
        }
        Due.is("refused", x.status(1), 6);
    }

    private static void hallTaken() {
        SilentCourt x = new SilentCourt();
        by(4, "The tape (it goes) is THE HALL: how many STATEMENTS;");
        Due.is("one", Due.hall(x, "hall 2;"), 1);
        Due.is("it goes", x.end(1), false);
        Due.is("thirteen", Due.hall(x, HALL), 13);
        by(4, "Without one all is as at first, nothing is KEPT or can be undone; the seed stays.");
        x.seed(5);
        x.take(1, 1, 3);
        x.point(1);
        x.move(0, 1);
        Due.is("many coughs", x.minutes(100) > 40, true);
        Due.is("the same hall", Due.hall(x, HALL), 13);
        Due.is("minute", x.has(6), 0);
        Due.is("asked", x.has(7), NONE);
        Due.is("hired", x.has(5), 0);
        Due.is("kept", x.has(9), 0);
        Due.is("kept", x.kept(0, 0), NONE);
        Due.is("undone", x.has(10), 0);
        Due.is("undone", x.undo(), false);
        Due.is("scale", x.scale(), 0);
        Due.is("seats", x.sits(0, 0), 0);
        Due.is("no fault is told", x.fault(0), 0);
        SilentCourt often = new SilentCourt();
        for (int k = 0; k < 50; k++) {
            Due.hall(often, "hall 2;person a keeps 7 itches 0 for judge at 0;weigh keeps+" + k + ";cough keeps*" + k + ";");
            Due.is("hall " + k + ", its weigh", often.sits(0, 6), 7 + k);
            Due.is("hall " + k + ", its cough", often.sits(0, 7), 7 * k);
        }
        Due.is("a lesser hall", Due.hall(x, "hall 2;"), 1);
        for (int what = 1; what <= 10; what++) {
            Due.is("has " + what, x.has(what), what == 7 ? NONE : 0);
        }
        Due.is("nobody sits", x.seat(0) + x.seat(1) + x.seat(2), 3 * NONE);
        // by the seed 5 the draws are 57, 74, 45, 54
        SilentCourt y = Due.court("hall 2;person a keeps 1 itches 46 for judge at 0;");
        y.seed(5);
        Due.is("57, 74", y.minutes(2), 0);
        Due.hall(y, "hall 2;person a keeps 1 itches 46 for judge at 0;");
        Due.is("the seed stays: 45", y.minutes(1), 1);
    }

    private static void fault() {
        SilentCourt x = new SilentCourt();
        by(5, "its FAULT (what 0; 0 without, and ahead of any), its place (1; NONE without).");
        Due.is("ahead of any", x.fault(0), 0);
        Due.is("ahead of any", x.fault(1), NONE);
        Due.hall(x, "hall 1;");
        Due.is("with", x.fault(0), 2);
        Due.is("with", x.fault(1), 5);
        Due.hall(x, "hall 2;");
        Due.is("without", x.fault(0), 0);
        Due.is("without", x.fault(1), NONE);
        Due.hall(x, "x");
        Due.is("at place 0", x.fault(1), 0);
        by(5, "Of the latest hall() or ask():");
        Due.ask(x, "often all");
        Due.is("of ask, without", x.fault(0), 0);
        Due.is("of ask, without", x.fault(1), NONE);
        Due.ask(x, "often [[[[[[[all");
        Due.is("of ask", x.fault(0), 4);
        Due.is("of ask", x.fault(1), 12);
        x.on();
        x.minutes(-1);
        Due.is("of no other call", x.fault(0), 4);
        x.hall();
        Due.is("of hall", x.fault(0), 1);
        by(5, "NONE for another what.");
        for (int what : FAR) {
            Due.is("what " + what, x.fault(what), NONE);
        }
        Due.is("what 2", x.fault(2), NONE);
    }

    // ---- what there is

    private static void has() {
        SilentCourt x = Due.court(HALL);
        by(6, "7 the POINT asked (NONE),");
        Due.is("none", x.has(7), NONE);
        x.point(0);
        Due.is("the first", x.has(7), 0);
        x.point(1);
        Due.is("the last", x.has(7), 1);
        by(6, "5 MUTES hired,");
        SilentCourt hired = Due.court("hall 9;mute a keeps 1 costs 0;mute b keeps 1 costs 0;mute c keeps 1 costs 0;"
                + "mute d keeps 1 costs 0;mute e keeps 1 costs 0;mute f keeps 1 costs 0;");
        for (int k = 0; k < 6; k++) {
            Due.is("so far", hired.has(5), k);
            hired.take(k, k % 2, k);
        }
        Due.is("all", hired.has(5), 6);
        hired.dismiss(0);
        Due.is("without the first", hired.has(5), 5);
        hired.dismiss(5);
        Due.is("without the last", hired.has(5), 4);
        by(6, "9 what is told as KEPT, 10 ACTS that can be undone.");
        Due.is("acts", x.has(10), 2);
        x.minutes(100);
        Due.is("kept", x.has(9), 40);
        Due.is("acts", x.has(10), 3);
        by(6, "NONE for others.");
        for (int what : FAR) {
            Due.is("what " + what, x.has(what), NONE);
        }
        Due.is("what 11", x.has(11), NONE);
    }

    private static void scale() {
        by(7, "The SCALE.");
        SilentCourt x = at(0);
        Due.is("at first", x.scale(), 0);
        Due.on(x, Due.sealed(0, 0, 3, 13, 63, 0, 0, 2, 4, 0, 0, 0, 0));
        Due.is("the greatest", x.scale(), 99999);
        Due.on(x, Due.sealed(0, 0, 0, 0, 1, 0, 0, 2, 4, 0, 0, 0, 0));
        Due.is("the least", x.scale(), -99999);
    }

    private static void letter() {
        SilentCourt x = Due.court("hall 9;person azazaz keeps 1 itches 0 for judge at 0;mute z keeps 1 costs 0;"
                + "mute zyxwvu keeps 1 costs 0;point ab judge 0 rogue 0;point b judge 0 rogue 0;point c judge 0 rogue 0;"
                + "point dz judge 0 rogue 0;");
        by(8, "1 .. 26; 0 behind it;");
        int[][] names = {{0, 0, 1, 26, 1, 26, 1, 26}, {1, 0, 26, 0, 0, 0, 0, 0}, {1, 1, 26, 25, 24, 23, 22, 21}, {2, 0, 1, 2, 0, 0, 0, 0},
            {2, 1, 2, 0, 0, 0, 0, 0}, {2, 3, 4, 26, 0, 0, 0, 0}};
        for (int[] name : names) {
            for (int k = 0; k < 6; k++) {
                Due.is("letter " + k, x.letter(name[0], name[1], k), name[2 + k]);
            }
        }
        by(8, "NONE when there is none such.");
        for (int far : FAR) {
            Due.is("kind " + far, x.letter(far, 0, 0), NONE);
            for (int kind = 0; kind < 3; kind++) {
                Due.is("which " + far, x.letter(kind, far, 0), NONE);
                Due.is("k " + far, x.letter(kind, 0, far), NONE);
            }
        }
        Due.is("a kind more", x.letter(3, 0, 0), NONE);
        Due.is("one more of the people", x.letter(0, 1, 0), NONE);
        Due.is("one more mute", x.letter(1, 2, 0), NONE);
        Due.is("one more point", x.letter(2, 4, 0), NONE);
        Due.is("no mute by number", x.letter(0, 10, 0), NONE);
        by(8, "Letter k (0 .. 5)");
        for (int kind = 0; kind < 3; kind++) {
            Due.is("a 7th letter", x.letter(kind, 0, 6), NONE);
            Due.is("below", x.letter(kind, 0, -1), NONE);
        }
    }

    private static void sits() {
        SilentCourt x = Due.court(HALL);
        by(9, "NONE when he does not sit,");
        for (int number = HALL_PEOPLE; number < 18; number++) {
            Due.is("number " + number, x.sits(number, 0), NONE);
        }
        for (int number : FAR) {
            Due.is("number " + number, x.sits(number, 0), NONE);
        }
        x.take(1, 0, 1);
        Due.is("hired", x.sits(11, 0), 1);
        Due.is("the other one is not", x.sits(10, 0), NONE);
        x.dismiss(1);
        Due.is("no longer", x.sits(11, 0), NONE);
        by(9, "or for others.");
        for (int what : FAR) {
            Due.is("what " + what, x.sits(0, what), NONE);
        }
        Due.is("what 7", x.sits(0, 7), 6);
        Due.is("what 8", x.sits(0, 8), NONE);
    }

    private static void seat() {
        SilentCourt x = Due.court(HALL);
        by(10, "NONE when nobody does, or there is none such.");
        int[] who = {0, NONE, 1, NONE, 2, NONE, NONE, NONE, NONE, NONE};
        for (int seat = 0; seat < who.length; seat++) {
            Due.is("seat " + seat, x.seat(seat), who[seat]);
        }
        for (int seat : FAR) {
            Due.is("seat " + seat, x.seat(seat), NONE);
        }
        SilentCourt y = Due.court("hall 9;person a keeps 1 itches 0 for judge at 8;");
        Due.is("the last one", y.seat(8), 0);
        Due.is("behind it", y.seat(9), NONE);
    }

    private static void mute() {
        SilentCourt x = Due.court(HALL);
        by(11, "2 whether he is hired.");
        x.take(1, 0, 3);
        Due.is("hired", x.mute(1, 2), 1);
        Due.is("the other one", x.mute(0, 2), 0);
        x.dismiss(1);
        Due.is("dismissed", x.mute(1, 2), 0);
        by(11, "NONE when there is none such, or for others.");
        for (int far : FAR) {
            Due.is("mute " + far, x.mute(far, 0), NONE);
            Due.is("what " + far, x.mute(0, far), NONE);
        }
        Due.is("the last", x.mute(1, 0), 3);
        Due.is("one more", x.mute(2, 0), NONE);
        Due.is("not by number", x.mute(10, 0), NONE);
        Due.is("what 2", x.mute(1, 2), 0);
        Due.is("what 3", x.mute(1, 3), NONE);
    }

    private static void noise() {
        SilentCourt x = Due.court(HALL + "noise at 99 seat 4 loud 1;");
        by(12, "NOISE at a SEAT in a MINUTE (0 .. 999); NONE when there are none such.");
        Due.is("minute 0", x.noise(1, 0), 0);
        Due.is("minute 1", x.noise(1, 1), 3);
        Due.is("minute 99", x.noise(4, 99), 1);
        Due.is("minute 999", x.noise(4, 999), 0);
        Due.is("minute 1000", x.noise(1, 1000), NONE);
        Due.is("minute -1", x.noise(1, -1), NONE);
        Due.is("the last seat", x.noise(4, 0), 0);
        Due.is("one more", x.noise(5, 1), NONE);
        for (int far : FAR) {
            Due.is("seat " + far, x.noise(far, 1), NONE);
            Due.is("minute " + far, x.noise(1, far), NONE);
        }
    }

    private static void kept() {
        SilentCourt x = Due.court("hall 2;person a keeps 1 itches 100 for judge at 0;cough minute*2;");
        by(13, "Of what is told as KEPT, the k-th from the oldest on:");
        x.minutes(3);
        Due.is("the oldest", x.kept(0, 0), 0);
        Due.is("the latest", x.kept(2, 0), 2);
        Due.is("the latest", x.kept(2, 2), 4);
        by(13, "NONE when there is none such, or for others.");
        Due.is("one more", x.kept(3, 0), NONE);
        for (int far : FAR) {
            Due.is("k " + far, x.kept(far, 0), NONE);
            Due.is("what " + far, x.kept(0, far), NONE);
        }
        Due.is("what 3", x.kept(0, 3), NONE);
        x.minutes(100);
        Due.is("the latest of forty", x.kept(39, 0), 102);
        Due.is("the oldest of forty", x.kept(0, 0), 63);
        Due.is("one more than forty", x.kept(40, 0), NONE);
    }

    // ---- minutes ahead

    private static void mean() {
        SilentCourt x = Due.court(HALL);
        by(14, "MEAN of n MINUTES (0 .. 200), in hundredths; NOTHING when n can't be,");
        Due.is("0", x.mean(0), 0);
        Due.is("1", x.mean(1), 380);
        Due.is("200", x.mean(200), 200 * 380 - 60);
        Due.is("201", x.mean(201), NOTHING);
        for (int n : FAR) {
            Due.is("n " + n, x.mean(n), NOTHING);
        }
        by(14, "or MINUTE 999 would be passed.");
        Due.is("all there are", at(799).mean(200), 200 * 380);
        Due.is("one too few", at(800).mean(200), NOTHING);
        Due.is("the last one", at(998).mean(1), 380);
        Due.is("none is left", at(999).mean(1), NOTHING);
        Due.is("none is asked", at(999).mean(0), 0);
    }

    private static void odds() {
        by(15, "in millionths (floor).");
        // .93 to the 4 is .74805201, the rest is .25194799
        SilentCourt x = Due.court("hall 4;person a keeps 1 itches 7 for judge at 0;person b keeps 1 itches 7 for judge at 1;"
                + "person c keeps 1 itches 7 for judge at 2;person d keeps 1 itches 7 for judge at 3;weigh 0;cough 1;");
        Due.is("as much", x.odds(2), 748052);
        Due.is("less", x.odds(1), 251947);
        Due.is("more", x.odds(0), 0);
        SilentCourt y = Due.court("hall 4;person a keeps 1 itches 7 for rogue at 0;person b keeps 1 itches 7 for rogue at 1;"
                + "person c keeps 1 itches 7 for rogue at 2;person d keeps 1 itches 7 for rogue at 3;weigh 3;cough 1;");
        // all four cough: 4 more; three: 3 - 3, as much; fewer: less. .07 ^ 4; 4 * .07 ^ 3 * .93 = .00127596
        Due.is("more", y.odds(0), 24);
        Due.is("as much", y.odds(2), 1275);
        Due.is("less", y.odds(1), 998700);
        by(15, "NONE for others.");
        Due.is("what 3", x.odds(3), NONE);
        for (int what : FAR) {
            Due.is("what " + what, x.odds(what), NONE);
        }
    }

    // ---- mutes, seats, points, coughs

    private static void hire() {
        SilentCourt x = Due.court(HALL);
        by(16, "HIRED for a PARTY (0 judge, 1 rogue), n MINUTES (1 .. 50), at least so much (in hundredths):");
        Due.is("1", x.hire(0, 1, 380, 0), 0);
        Due.is("50", x.hire(0, 50, 50 * 380 - 60, 0), 0);
        Due.is("50, a hundredth more", x.hire(0, 50, 50 * 380 - 59, 0), 1);
        Due.is("0", x.hire(0, 0, LEAST, 0), NONE);
        Due.is("51", x.hire(0, 51, LEAST, 0), NONE);
        Due.is("the rogue", x.hire(1, 1, -380, 0), 0);
        Due.is("nobody", x.hire(2, 1, LEAST, 0), NONE);
        Due.is("less than nobody", x.hire(-1, 1, LEAST, 0), NONE);
        by(16, "NONE when it can't be, something can't be, or for others.");
        Due.is("all mutes", x.hire(0, 1, 1330, 0), 2);
        Due.is("more than all mutes", x.hire(0, 1, 1331, 0), NONE);
        Due.is("more than all mutes", x.hire(0, 1, 1331, 1), NONE);
        Due.is("more than all mutes", x.hire(0, 1, 1331, 2), NONE);
        Due.is("what 3", x.hire(0, 1, 0, 3), NONE);
        for (int far : FAR) {
            Due.is("party " + far, x.hire(far, 1, 0, 0), NONE);
            Due.is("n " + far, x.hire(0, far, 0, 0), NONE);
            Due.is("what " + far, x.hire(0, 1, 0, far), NONE);
        }
        Due.is("no act", x.has(5) + x.has(10), 0);
        // n MINUTES that end at the last one can be, one more can't, however little is asked for
        for (int[] row : new int[][] {{949, 50}, {950, 49}, {997, 2}, {998, 1}}) {
            int minute = row[0];
            int n = row[1];
            int due = 380 * n;
            Due.is("up to 999 from " + minute, at(minute).hire(0, n, due, 0), 0);
            Due.is("a hundredth more from " + minute, at(minute).hire(0, n, due + 1, 1), 2);
            Due.is("all mutes from " + minute, at(minute).hire(0, n, due + 950 * n, 2), 11);
            Due.is("more than all mutes from " + minute, at(minute).hire(0, n, due + 950 * n + 1, 0), NONE);
        }
        for (int[] row : new int[][] {{950, 50}, {951, 49}, {997, 3}, {998, 2}, {998, 50}, {999, 1}, {999, 50}}) {
            for (int what = 0; what < 3; what++) {
                String call = "beyond 999 from " + row[0] + ", what " + what;
                Due.is(call, at(row[0]).hire(0, row[1], LEAST, what), NONE);
                Due.is(call, at(row[0]).hire(1, row[1], LEAST, what), NONE);
            }
        }
    }

    private static void change() {
        SilentCourt x = Due.court("hall 3;person a keeps 1 itches 0 for judge at 0;person b keeps 1 itches 0 for rogue at 2;weigh seat;");
        by(17, "CHANGE for a PARTY (0, 1): the one (what 0), the other one (1), by number.");
        Due.is("the one", x.change(0, 0), 0);
        Due.is("the other one", x.change(0, 1), 1);
        Due.is("no act", x.sits(0, 0) + x.has(10), 0);
        by(17, "NONE when none is better, there is none such, or for others.");
        Due.is("none is better", x.change(1, 0), NONE);
        Due.is("none is better", x.change(1, 1), NONE);
        Due.is("nobody", x.change(2, 0), NONE);
        Due.is("what 2", x.change(0, 2), NONE);
        for (int far : FAR) {
            Due.is("party " + far, x.change(far, 0), NONE);
            Due.is("what " + far, x.change(0, far), NONE);
        }
        SilentCourt rogue = Due.court("hall 3;person a keeps 1 itches 0 for rogue at 0;person b keeps 1 itches 0 for judge at 2;weigh seat;");
        Due.is("the rogue", rogue.change(1, 0) * 10 + rogue.change(1, 1), 1);
        Due.is("nobody, where the rogue has one", rogue.change(2, 0), NONE);
        Due.is("nobody, where the rogue has one", rogue.change(2, 1), NONE);
        for (int far : FAR) {
            Due.is("party " + far + ", where the rogue has one", rogue.change(far, 1), NONE);
        }
        Due.is("nobody sits", Due.court("hall 2;").change(0, 0), NONE);
    }

    private static void points() {
        SilentCourt x = Due.court(HALL);
        by(18, "TURNS, n MINUTES (1 .. 3): the MEAN behind them, in hundredths (k NONE), the POINT of turn k.");
        Due.is("1", x.points(1, NONE), 650);
        Due.is("1, its turn", x.points(1, 0), 0);
        Due.is("3", x.points(3, NONE), 1270);
        Due.is("3, the second turn", x.points(3, 1), 1);
        Due.is("3, the last turn", x.points(3, 2), 0);
        by(18, "NOTHING without POINTS,");
        SilentCourt none = Due.court("hall 2;person a keeps 1 itches 0 for judge at 0;");
        Due.is("mean", none.points(1, NONE), NOTHING);
        Due.is("turn", none.points(1, 0), NOTHING);
        by(18, "when n can't be,");
        Due.is("0", x.points(0, NONE), NOTHING);
        Due.is("4", x.points(4, NONE), NOTHING);
        by(18, "MINUTE 999 would be passed,");
        Due.is("up to 999", at(996).points(3, 0), 0);
        Due.is("beyond", at(997).points(3, 0), NOTHING);
        Due.is("beyond", at(999).points(1, NONE), NOTHING);
        Due.is("the last one", at(998).points(1, NONE), 650);
        by(18, "or for others.");
        for (int n = 1; n <= 3; n++) {
            Due.is("a turn too many", x.points(n, n), NOTHING);
            Due.is("a turn below", x.points(n, -2), NOTHING);
        }
        for (int far : FAR) {
            Due.is("n " + far, x.points(far, NONE), NOTHING);
            if (far != NONE) {
                Due.is("k " + far, x.points(3, far), NOTHING);
            }
        }
    }

    private static void fell() {
        SilentCourt x = Due.court(HALL);
        by(19, "who coughs in all of them, as bits of PEOPLE (1; 0 without), in some (2).");
        Due.is("jan and rob", x.fell(0, 1), 3);
        Due.is("ned, too", x.fell(0, 2), 7);
        Due.is("no sets", x.fell(1, 0), 0);
        Due.is("without, in all", x.fell(1, 1), 0);
        Due.is("without, in some", x.fell(1, 2), 0);
        Due.is("far", x.fell(MOST, 0) + x.fell(LEAST, 0) + x.fell(MOST, 1) + x.fell(LEAST, 2), 0);
        SilentCourt nobody = Due.court("hall 2;");
        Due.is("the empty set", nobody.fell(0, 0), 1);
        Due.is("the empty set", nobody.fell(0, 1) + nobody.fell(0, 2), 0);
        StringBuilder eight = new StringBuilder("hall 9;");
        for (int k = 0; k < 8; k++) {
            eight.append("person ").append((char) ('a' + k)).append(" keeps 1 itches 1 for nobody at ").append(k).append(";");
        }
        SilentCourt most = Due.court(eight.toString());
        Due.is("all sets of eight", most.fell(0, 0), 256);
        Due.is("none in all", most.fell(0, 1), 0);
        Due.is("each in some", most.fell(0, 2), 255);
        by(19, "NONE for others.");
        Due.is("what 3", x.fell(0, 3), NONE);
        for (int what : FAR) {
            Due.is("what " + what, x.fell(0, what), NONE);
        }
    }

    private static void asked() {
        SilentCourt x = Due.court(HALL);
        by(20, "by some who cough (bits of PEOPLE): POINTS as bits;");
        Due.is("none coughs", x.asked(1, 0), 1);
        Due.is("all cough", x.asked(0, 7), 3);
        Due.is("no point does so", x.asked(MOST, 0), 0);
        Due.is("no points", Due.court("hall 2;").asked(0, 0), 0);
        by(20, "NONE when there are none such.");
        Due.is("a fourth one", x.asked(0, 8), NONE);
        Due.is("a fourth one, too", x.asked(0, 15), NONE);
        for (int coughing : FAR) {
            Due.is("coughing " + coughing, x.asked(0, coughing), NONE);
        }
        Due.is("a mute", x.asked(0, 1 << 10), NONE);
        Due.is("nobody sits", Due.court("hall 2;").asked(0, 1), NONE);
        StringBuilder eight = new StringBuilder("hall 9;point p judge 0 rogue 0;");
        for (int k = 0; k < 8; k++) {
            eight.append("person ").append((char) ('a' + k)).append(" keeps 1 itches 1 for judge at ").append(k).append(";");
        }
        SilentCourt most = Due.court(eight.toString());
        Due.is("all eight", most.asked(-40, 255), 1);
        Due.is("a ninth", most.asked(-40, 256), NONE);
    }

    private static void loudest() {
        String two = "hall 2;person a keeps 50 itches 0 for judge at 0;noise at 0 seat 0 loud 1;noise at 99 seat 0 loud 9;weigh keeps-noise;";
        SilentCourt x = Due.court(two);
        by(21, "LOUDEST, n MINUTES (1 .. 200): the NOISE, by numbers.");
        Due.is("1", x.loudest(1), 0);
        Due.is("200", x.loudest(200), 1);
        by(21, "NONE without NOISES, when n can't be,");
        Due.is("without", Due.court("hall 2;").loudest(1), NONE);
        Due.is("0", x.loudest(0), NONE);
        Due.is("201", x.loudest(201), NONE);
        for (int n : FAR) {
            Due.is("n " + n, x.loudest(n), NONE);
        }
        by(21, "or MINUTE 999 would be passed.");
        Due.is("all there are", at(799).loudest(200), 0);
        Due.is("one too few", at(800).loudest(200), NONE);
        Due.is("the last one", at(998).loudest(1), 0);
        Due.is("none is left", at(999).loudest(1), NONE);
    }

    // ---- acts

    private static void minutes() {
        SilentCourt x = Due.court("hall 2;person a keeps 1 itches 100 for judge at 0;");
        by(22, "n MINUTES by the seed (1 .. 100), one ACT: how many coughs;");
        Due.is("1", x.minutes(1), 1);
        Due.is("100", x.minutes(100), 100);
        Due.is("each is one act", x.has(10), 2);
        by(22, "NONE, refused (2), when it can't be");
        String before = all(x);
        Due.is("0", x.minutes(0), NONE);
        Due.is("101", x.minutes(101), NONE);
        for (int n : FAR) {
            Due.is("n " + n, x.minutes(n), NONE);
        }
        Due.is("refused", x.status(2), 2 + FAR.length);
        stays(x, before);
        by(22, "(beyond MINUTE 999, no hall).");
        SilentCourt late = at(899);
        Due.is("up to 999", late.minutes(100) != NONE, true);
        Due.is("up to 999", late.has(6), 999);
        Due.is("none is left", late.minutes(1), NONE);
        SilentCourt later = at(900);
        Due.is("one too few", later.minutes(100), NONE);
        Due.is("none of them", later.has(6), 900);
        Due.is("refused", later.status(2) * 10 + late.status(2), 11);
        SilentCourt none = new SilentCourt();
        Due.is("no hall", none.minutes(1), NONE);
        Due.is("no hall", none.has(6), 0);
        Due.is("refused", none.status(2), 1);
        // a refused one draws nothing: by the seed 1 the first draw is 18
        SilentCourt seeded = Due.court("hall 2;person a keeps 1 itches 19 for judge at 0;");
        seeded.minutes(101);
        Due.is("a refused one draws nothing", seeded.minutes(1), 1);
    }

    private static void point() {
        SilentCourt x = Due.court(HALL);
        by(23, "false, refused (3), when there is none such,");
        String before = all(x);
        Due.is("2", x.point(2), false);
        Due.is("-2", x.point(-2), false);
        for (int point : FAR) {
            Due.is("point " + point, x.point(point), false);
        }
        Due.is("refused", x.status(3), 2 + FAR.length);
        stays(x, before);
        by(23, "or it is so already.");
        Due.is("none already", x.point(NONE), false);
        Due.is("the last", x.point(1), true);
        Due.is("already", x.point(1), false);
        Due.is("the first", x.point(0), true);
        Due.is("already", x.point(0), false);
        Due.is("refused", x.status(3), 5 + FAR.length);
        Due.is("no acts", x.has(10), 2);
        by(23, "A POINT is asked (NONE: none any more): true;");
        Due.is("none any more", x.point(NONE), true);
        Due.is("none any more", x.has(7), NONE);
        Due.is("an act", x.has(10), 3);
        SilentCourt none = new SilentCourt();
        Due.is("without a hall", none.point(0), false);
        Due.is("without a hall, none already", none.point(NONE), false);
        Due.is("refused", none.status(3), 2);
    }

    private static void move() {
        SilentCourt x = Due.court(HALL);
        x.take(1, 0, 3);
        String before = all(x);
        by(24, "false, refused (3), when he does not sit,");
        for (int number : new int[] {3, 7, 8, 9, 10, 12, 15, 16, 17}) {
            Due.is("number " + number, x.move(number, 1), false);
        }
        for (int number : FAR) {
            Due.is("number " + number, x.move(number, 1), false);
        }
        by(24, "there is none such,");
        Due.is("one more", x.move(0, 5), false);
        for (int seat : FAR) {
            Due.is("seat " + seat, x.move(0, seat), false);
        }
        by(24, "or it is his own.");
        Due.is("his own", x.move(0, 0), false);
        Due.is("his own", x.move(2, 4), false);
        Due.is("a mute's own", x.move(11, 3), false);
        Due.is("refused", x.status(3), 13 + 2 * FAR.length);
        stays(x, before);
        by(24, "One who sits (by number) changes to another SEAT: true;");
        Due.is("the first seat", x.move(11, 0), true);
        Due.is("jan came to his", x.seat(3), 0);
        Due.is("the last seat", x.move(0, 4), true);
        Due.is("ned came to his", x.seat(3), 2);
        Due.is("an empty seat", x.move(1, 1), true);
        Due.is("his own is free", x.seat(2), NONE);
        Due.is("acts", x.has(10), 4);
    }

    private static void take() {
        SilentCourt x = Due.court(HALL);
        by(25, "false, refused (3), when something can't be.");
        String before = all(x);
        Due.is("one more mute", x.take(2, 0, 1), false);
        Due.is("not by number", x.take(10, 0, 1), false);
        Due.is("nobody", x.take(0, 2, 1), false);
        Due.is("one more seat", x.take(0, 0, 5), false);
        Due.is("one sits there", x.take(0, 0, 4), false);
        for (int far : FAR) {
            Due.is("mute " + far, x.take(far, 0, 1), false);
            Due.is("party " + far, x.take(0, far, 1), false);
            Due.is("seat " + far, x.take(0, 0, far), false);
        }
        Due.is("refused", x.status(3), 5 + 3 * FAR.length);
        stays(x, before);
        by(25, "A MUTE is hired for a PARTY (0, 1), in a SEAT: true;");
        Due.is("for the judge", x.take(0, 0, 1), true);
        Due.is("hired already", x.take(0, 1, 3), false);
        Due.is("a mute sits there", x.take(1, 1, 1), false);
        Due.is("for the rogue", x.take(1, 1, 3), true);
        Due.is("parties", x.sits(10, 1) * 10 + x.sits(11, 1), 1);
        Due.is("acts", x.has(10), 2);
        Due.is("refused", x.status(3), 7 + 3 * FAR.length);
        Due.is("without a hall", new SilentCourt().take(0, 0, 0), false);
    }

    private static void dismiss() {
        SilentCourt x = Due.court(HALL);
        by(26, "A MUTE that is hired is dismissed: true;");
        x.take(1, 1, 3);
        Due.is("dismissed", x.dismiss(1), true);
        Due.is("his seat is free", x.seat(3), NONE);
        Due.is("acts", x.has(10), 2);
        by(26, "false, refused (3), when he is not.");
        String before = all(x);
        Due.is("no longer", x.dismiss(1), false);
        Due.is("never hired", x.dismiss(0), false);
        Due.is("one more mute", x.dismiss(2), false);
        Due.is("not by number", x.dismiss(10), false);
        for (int mute : FAR) {
            Due.is("mute " + mute, x.dismiss(mute), false);
        }
        Due.is("none of the people", x.dismiss(-10), false);
        Due.is("none of the people", x.dismiss(-8), false);
        Due.is("refused", x.status(3), 6 + FAR.length);
        stays(x, before);
    }

    private static void undo() {
        SilentCourt x = Due.court(HALL);
        by(27, "false, refused (4), when none can be.");
        Due.is("none yet", x.undo(), false);
        x.point(1);
        Due.is("one", x.undo(), true);
        Due.is("no other", x.undo(), false);
        Due.is("refused", x.status(4), 2);
        for (int k = 0; k < 21; k++) {
            x.point(k % 2);
        }
        for (int k = 0; k < 20; k++) {
            Due.is("twenty", x.undo(), true);
        }
        Due.is("no 21st", x.undo(), false);
        Due.is("refused", x.status(4), 3);
        Due.is("as behind the first", x.has(7), 0);
        by(27, "The latest ACT is undone (the seed stays): true;");
        // by the seed 1 the draws are 18, 99, 26, 80
        SilentCourt y = Due.court("hall 2;person a keeps 1 itches 50 for judge at 0;mute m keeps 1 costs 0;");
        Due.is("18", y.minutes(1), 1);
        Due.is("undone", y.undo(), true);
        Due.is("no cough is kept", y.has(9) + y.has(6) + y.scale(), 0);
        Due.is("the seed stays: 99", y.minutes(1), 0);
        Due.is("26", y.minutes(1), 1);
        y.seed(5);
        Due.is("a seed is no act", y.undo(), true);
        Due.is("a seed is no act", y.has(6), 1);
        y.take(0, 1, 1);
        y.dismiss(0);
        y.undo();
        Due.is("he is back, for his party", y.sits(10, 1), 1);
        Due.is("in his seat", y.sits(10, 0), 1);
        // coughs that had to go are back
        SilentCourt z = Due.court("hall 2;person a keeps 1 itches 100 for judge at 0;");
        z.minutes(40);
        z.minutes(100);
        z.undo();
        Due.is("the oldest is back", z.kept(0, 0), 0);
        Due.is("the latest is back", z.kept(39, 0), 39);
        Due.is("forty", z.has(9), 40);
    }

    private static void seed() {
        by(28, "false, refused (5), when it is below 0.");
        SilentCourt x = Due.court("hall 2;person a keeps 1 itches 19 for judge at 0;");
        Due.is("-1", x.seed(-1), false);
        Due.is("the least", x.seed(LEAST), false);
        Due.is("refused", x.status(5), 2);
        Due.is("the seed stays: 18", x.minutes(1), 1);
        Due.is("0", x.seed(0), true);
        Due.is("the greatest", x.seed(MOST), true);
        Due.is("refused", x.status(5), 2);
        by(28, "(It is 1 at first.)");
        SilentCourt y = Due.court("hall 2;person a keeps 1 itches 50 for judge at 0;");
        SilentCourt z = Due.court("hall 2;person a keeps 1 itches 50 for judge at 0;");
        z.seed(1);
        Due.is("as by 1", y.minutes(30), z.minutes(30));
        for (int k = 0; k < y.has(9); k++) {
            Due.is("as by 1", y.kept(k, 0), z.kept(k, 0));
        }
    }

    // ---- questions

    private static void ask() {
        SilentCourt x = Due.court(HALL);
        by(29, "NONE of first, last, when its TEST holds for none;");
        Due.is("first", Due.ask(x, "first keeps>12"), NONE);
        Due.is("last", Due.ask(x, "last keeps>12"), NONE);
        Due.is("often", Due.ask(x, "often keeps>12"), 0);
        SilentCourt empty = Due.court("hall 2;");
        Due.is("first of nobody", Due.ask(empty, "first all"), NONE);
        Due.is("last of nobody", Due.ask(empty, "last all"), NONE);
        by(29, "NOTHING with a FAULT,");
        String before = all(x);
        Due.is("an empty tape", Due.ask(x, ""), NOTHING);
        Due.is("a fault", Due.ask(x, "often all all"), NOTHING);
        Due.is("too deep", Due.ask(x, "total (((((((1)))))))"), NOTHING);
        stays(x, before);
        Due.is("none is refused", x.status(0) + x.status(1) + x.status(2) + x.status(3) + x.status(4) + x.status(5), 0);
        by(29, "The tape (it goes) is a QUESTION:");
        Due.is("it goes, with a fault, too", x.end(1), false);
        Due.ask(x, "often all");
        Due.is("it goes", x.end(1), false);
        // as many as an object's 512 calls allow: none leaves anything for the next one
        SilentCourt many = Due.court("hall 2;person a keeps 7 itches 0 for judge at 0;");
        for (int k = 0; k < 120; k++) {
            Due.is("question " + k, Due.ask(many, "total keeps+" + k), 7 + k);
        }
        by(29, "or, doing nothing else, without a hall.");
        SilentCourt none = new SilentCourt();
        Due.is("without", Due.ask(none, "often all"), NOTHING);
        Due.is("no fault", none.fault(0), 0);
        Due.is("without, a wrong one", Due.ask(none, "often al"), NOTHING);
        Due.is("no fault, either", none.fault(0), 0);
        Due.is("no place, either", none.fault(1), NONE);
        Due.is("but the tape goes", none.end(1), false);
        Due.hall(none, "hall 1;");
        Due.is("no hall yet", Due.ask(none, "often all"), NOTHING);
        Due.is("the latest fault stays", none.fault(0), 2);
    }

    // ---- images, refusals

    private static void image() {
        by(30, "AN IMAGE is written: how many bytes.");
        Due.is("no hall", new SilentCourt().image(), 7);
        Due.is("nobody", Due.court("hall 9;").image(), 7);
        Due.is("three people, two mutes", Due.court(HALL).image(), 14);
        StringBuilder full = new StringBuilder("hall 9;");
        for (int k = 0; k < 8; k++) {
            full.append("person p").append((char) ('a' + k)).append(" keeps 1 itches 0 for judge at ").append(k).append(";");
        }
        for (int k = 0; k < 6; k++) {
            full.append("mute m").append((char) ('a' + k)).append(" keeps 1 costs 0;");
        }
        SilentCourt x = Due.court(full.toString());
        Due.is("eight people, six mutes", x.image(), 27);
        x.take(5, 1, 8);
        Due.is("as many when one is hired", x.image(), 27);
        Due.is("his seat", x.octet(24), 9);
        Due.is("his party", x.octet(25), 1);
    }

    private static void octet() {
        by(31, "Byte k of the latest image(); NONE when there is none such.");
        SilentCourt x = Due.court(HALL);
        Due.is("no image yet", x.octet(0), NONE);
        x.image();
        Due.is("the first", x.octet(0), 0);
        Due.is("the last", x.octet(13) >= 0, true);
        Due.is("one more", x.octet(14), NONE);
        for (int k : FAR) {
            Due.is("k " + k, x.octet(k), NONE);
        }
        x.minutes(7);
        Due.is("the latest image, not the latest minute", x.octet(1), 0);
        x.image();
        Due.is("the latest image", x.octet(1), 7);
        Due.hall(x, "hall 2;");
        Due.is("a lesser image", x.image(), 7);
        Due.is("the last", x.octet(6), 233);
        Due.is("what the greater one had is gone", x.octet(7), NONE);
    }

    private static boolean on(SilentCourt court, int... ahead) {
        return Due.on(court, Due.sealed(ahead));
    }

    private static void onTaken() {
        by(32, "true, all is as it tells, nothing is KEPT or can be undone;");
        SilentCourt x = Due.court(HALL);
        x.minutes(90);
        x.take(1, 0, 1);
        Due.is("taken", on(x, 3, 231, 3, 13, 63, 2, 4, 0, 2, 2, 1, 4, 0), true);
        Due.is("minute", x.has(6), 999);
        Due.is("scale", x.scale(), 99999);
        Due.is("asked", x.has(7), 1);
        int[] who = {1, 10, 2, 11, 0};
        for (int seat = 0; seat < 5; seat++) {
            Due.is("seat " + seat, x.seat(seat), who[seat]);
        }
        Due.is("parties", x.sits(10, 1) * 10 + x.sits(11, 1), 10);
        Due.is("people keep theirs", x.sits(0, 1) * 100 + x.sits(1, 1) * 10 + x.sits(2, 1), 12);
        Due.is("nothing kept", x.has(9), 0);
        Due.is("nothing kept", x.kept(0, 0), NONE);
        Due.is("nothing to undo", x.has(10), 0);
        Due.is("nothing to undo", x.undo(), false);
        Due.is("the tape goes", x.end(1), false);
        Due.is("the least of all", on(x, 0, 0, 0, 0, 1, 0, 0, 1, 2, 0, 0, 0, 0), true);
        Due.is("the least scale", x.scale(), -99999);
        Due.is("none asked", x.has(7), NONE);
        Due.is("none hired", x.has(5), 0);
        Due.is("refused", x.status(5), 0);
        // by the seed 1 the draws are 18, 99, 26
        SilentCourt y = Due.court("hall 2;person a keeps 1 itches 50 for judge at 0;");
        y.minutes(1);
        on(y, 0, 0, 1, 134, 160, 0, 0);
        Due.is("the seed is no part of it: 99", y.minutes(1), 0);
    }

    private static void onRefused() {
        SilentCourt x = Due.court(HALL);
        x.take(1, 1, 3);
        x.minutes(90);
        String before = all(x);
        by(32, "(MINUTES 999, the SCALE as it can be, POINTS, SEATS that there are, none taken by two, PARTIES of MUTES 0, 1)");
        int[] good = {3, 231, 0, 0, 1, 2, 4, 0, 1, 3, 1, 0, 0};
        int[][] wrong = {{1, 232}, {0, 4}, {0, 255}, {4, 0}, {2, 255}, {5, 3}, {5, 255}, {6, 5}, {6, 255}, {6, 0}, {6, 1}, {8, 4},
            {8, 2}, {9, 6}, {9, 255}, {9, 1}, {9, 5}, {10, 2}, {10, 255}, {12, 1}, {11, 1}, {11, 3}, {11, 6}};
        for (int[] one : wrong) {
            int[] row = good.clone();
            row[one[0]] = one[1];
            Due.is("byte " + one[0] + " is " + one[1], on(x, row), false);
        }
        Due.is("a scale of 100000", on(x, 3, 231, 3, 13, 64, 2, 4, 0, 1, 3, 1, 0, 0), false);
        Due.is("a scale of -100000", on(x, 3, 231, 0, 0, 0, 2, 4, 0, 1, 3, 1, 0, 0), false);
        Due.is("a mute who is not hired, with a party", on(x, 3, 231, 0, 0, 1, 2, 4, 0, 1, 0, 1, 0, 0), false);
        by(32, "false, refused (5), when it is none");
        Due.is("an empty tape", x.on(), false);
        int[] sealed = Due.sealed(good);
        for (int length = 0; length < sealed.length; length++) {
            Due.is("cut at " + length, Due.on(x, java.util.Arrays.copyOf(sealed, length)), false);
            Due.is("cut at " + length + ", with its last byte",
                    length < good.length && on(x, java.util.Arrays.copyOf(good, length)), false);
        }
        Due.is("a byte more", Due.on(x, java.util.Arrays.copyOf(sealed, sealed.length + 1)), false);
        Due.is("a byte more ahead of the last", on(x, java.util.Arrays.copyOf(good, good.length + 1)), false);
        Due.is("as long as a tape can be", Due.on(x, new int[1600]), false);
        sealed[13] = (sealed[13] + 251) % 256;
        Due.is("another last byte", Due.on(x, sealed), false);
        sealed = Due.sealed(good);
        sealed[4] = 2;
        Due.is("another byte ahead of it", Due.on(x, sealed), false);
        Due.is("refused", x.status(5), 23 + 3 + 1 + 14 + 13 + 5);
        Due.is("the tape goes", x.end(1), false);
        by(32, "or there is no hall, all staying.");
        stays(x, before);
        Due.is("what can be undone stays", x.undo(), true);
        SilentCourt none = new SilentCourt();
        Due.is("no hall", on(none, 0, 0, 1, 134, 160, 0), false);
        Due.is("the tape goes", none.end(1), false);
        Due.is("refused", none.status(5), 1);
        Due.is("with a hall", on(Due.court("hall 2;"), 0, 0, 1, 134, 160, 0), true);
    }

    private static void status() {
        by(33, "How many were refused: 0 feed(), end(); 1 hall(); 2 minutes(); 3 point(), move(), take(), dismiss(); 4 undo(); "
                + "5 seed(), on().");
        SilentCourt x = new SilentCourt();
        int[] due = new int[6];
        int[] which = {0, 1, 2, 3, 3, 3, 3, 4, 5, 5};
        for (int round = 0; round < 20; round++) {
            for (int call = 0; call < which.length; call++) {
                refused(x, call);
                due[which[call]]++;
                Due.is("call " + call, x.status(which[call]), due[which[call]]);
            }
        }
        for (int what = 0; what < 6; what++) {
            Due.is("status " + what, x.status(what), due[what]);
        }
        SilentCourt full = new SilentCourt();
        for (int k = 0; k < 82; k++) {
            full.feed(0, 0, 0, 0, 0);
        }
        Due.is("of feed", full.status(0), 2);
        by(33, "NONE for others.");
        Due.is("what 6", x.status(6), NONE);
        for (int what : FAR) {
            Due.is("what " + what, x.status(what), NONE);
        }
    }

    private static void refused(SilentCourt x, int call) {
        switch (call) {
            case 0: x.end(1); break;
            case 1: x.hall(); break;
            case 2: x.minutes(1); break;
            case 3: x.point(0); break;
            case 4: x.move(0, 0); break;
            case 5: x.take(0, 0, 0); break;
            case 6: x.dismiss(0); break;
            case 7: x.undo(); break;
            case 8: x.seed(-1); break;
            default: x.on();
        }
    }
}
