/** Promises 1 to 33, one by one, with answers reckoned by hand. */
public final class PromiseTest {
    private static final int NONE = SilentCourt.NONE;
    private static final long NOTHING = SilentCourt.NOTHING;
    private static final String HALL = "hall 5;person jan keeps 10 itches 20 for judge at 0;"
            + "person rob keeps 12 itches 50 for rogue at 2;person ned keeps 5 itches 10 for nobody at 4;"
            + "point why judge 4 rogue 1;point who judge 0 rogue 7;noise at 1 seat 1 loud 3;"
            + "mute mim keeps 8 costs 9;mute mum keeps 3 costs 2;hates jan rob;hates mim rob;"
            + "weigh keeps+asked-noise-hated*3;cough 6;";

    private PromiseTest() {
    }

    public static void main(String[] args) {
        newObject();
        feedAndEnd();
        hall();
        hasAndLetters();
        whoSits();
        noise();
        sums();
        kept();
        mean();
        odds();
        hire();
        change();
        points();
        fellAndAsked();
        loudest();
        minutes();
        cuts();
        acts();
        undo();
        seed();
        ask();
        image();
        on();
        status();
        Due.end();
    }

    private static void newObject() {
        SilentCourt x = new SilentCourt();
        for (int what = 0; what <= 10; what++) {
            Due.is("1: has " + what, x.has(what), what == 7 ? NONE : 0);
        }
        Due.is("1: scale", x.scale(), 0);
        Due.is("1: fault", x.fault(0), 0);
        Due.is("1: place", x.fault(1), NONE);
        Due.is("1: seat", x.seat(0), NONE);
        Due.is("1: mean", x.mean(200), 0);
        Due.is("1: odds", x.odds(2), 1000000);
        Due.is("1: octet", x.octet(0), NONE);
        Due.is("1: minutes", x.minutes(1), NONE);
        for (int what = 0; what < 6; what++) {
            Due.is("1: status " + what, x.status(what), what == 2 ? 1 : 0);
        }
    }

    private static void feedAndEnd() {
        SilentCourt x = new SilentCourt();
        for (int k = 1; k <= 80; k++) {
            Due.is("2: feed", x.feed(-1, 0, 0, 0, 0), 20 * k);
        }
        Due.is("2: feed beyond", x.feed(0, 0, 0, 0, 0), NONE);
        Due.is("2: refused", x.status(0), 1);
        Due.is("3: end of all", x.end(1600), true);
        Due.is("3: end beyond", x.end(1601), false);
        Due.is("3: end below", x.end(-1), false);
        Due.is("3: end least", x.end(Integer.MIN_VALUE), false);
        Due.is("3: refused", x.status(0), 4);
        Due.is("3: end", x.end(1581), true);
        Due.is("2: feed beyond", x.feed(0, 0, 0, 0, 0), NONE);
        Due.is("3: end", x.end(1580), true);
        Due.is("3: longer", x.end(1581), false);
        Due.is("2: feed to the end", x.feed(0, 0, 0, 0, 0), 1600);
        Due.is("3: end", x.end(0), true);
        Due.is("3: end of nothing", x.end(0), true);
        Due.is("3: end of nothing", x.end(1), false);
        // "hall 4;                 " of each number the highest byte first
        x.feed(0x68616c6c, 0x20343b20, 0x20202020, 0x20202020, 0x20202020);
        Due.is("2: bytes in their order", x.hall(), 1);
        Due.is("2: bytes in their order", x.has(0), 4);
    }

    private static void hall() {
        SilentCourt x = new SilentCourt();
        Due.is("4: statements", Due.hall(x, HALL), 13);
        Due.is("4: the tape goes", x.feed(0, 0, 0, 0, 0), 20);
        x.seed(77);
        x.take(0, 1, 1);
        x.point(1);
        x.minutes(30);
        x.image();
        int octets = x.octet(5);
        Due.is("4: refused", x.hall(), NONE);
        Due.is("4: refused once", x.status(1), 1);
        Due.is("4: all stays", x.has(6), 30);
        Due.is("4: all stays", x.has(10), 3);
        Due.is("4: another hall", Due.hall(x, "hall 2;person jan keeps 9 itches 0 for judge at 1;"), 2);
        Due.is("4: as at first", x.has(6), 0);
        Due.is("4: as at first", x.has(5), 0);
        Due.is("4: as at first", x.has(7), NONE);
        Due.is("4: as at first", x.scale(), 0);
        Due.is("4: nothing kept", x.has(9), 0);
        Due.is("4: nothing to undo", x.undo(), false);
        Due.is("4: the old ones are gone", x.has(4) + x.has(3) + x.has(2) + x.has(8), 0);
        Due.is("4: weigh is gone", x.sits(0, 6), 9);
        Due.is("4: cough is gone", x.sits(0, 7), 5);
        Due.is("4: the image stays", x.octet(5), octets);
        Due.is("4: the refusals stay", x.status(1), 1);
        // the seed stays: two objects that draw on from one place cough alike
        SilentCourt y = Due.court(HALL);
        y.seed(77);
        y.minutes(30);
        Due.hall(x, HALL);
        Due.hall(y, HALL);
        x.minutes(40);
        y.minutes(40);
        for (int k = 0; k < 40; k++) {
            Due.is("4: the seed stays", x.kept(k, 0) * 16 + x.kept(k, 1), y.kept(k, 0) * 16 + y.kept(k, 1));
        }
    }

    private static void hasAndLetters() {
        SilentCourt x = Due.court(HALL);
        int[] has = {5, 3, 2, 1, 2, 0, 0, NONE, 2, 0, 0};
        for (int what = 0; what < has.length; what++) {
            Due.is("6: has " + what, x.has(what), has[what]);
        }
        Due.is("6: others", x.has(11), NONE);
        Due.is("6: others", x.has(-1), NONE);
        x.take(1, 0, 1);
        x.point(1);
        Due.is("6: hired", x.has(5), 1);
        Due.is("6: asked", x.has(7), 1);
        Due.is("6: acts", x.has(10), 2);
        String[][] names = {{"jan", "rob", "ned"}, {"mim", "mum"}, {"why", "who"}};
        for (int kind = 0; kind < 3; kind++) {
            for (int which = 0; which < names[kind].length; which++) {
                for (int k = 0; k < 6; k++) {
                    Due.is("8: letter", x.letter(kind, which, k), k < 3 ? names[kind][which].charAt(k) - 'a' + 1 : 0);
                }
            }
            Due.is("8: k beyond", x.letter(kind, 0, 6), NONE);
            Due.is("8: k below", x.letter(kind, 0, -1), NONE);
            Due.is("8: which beyond", x.letter(kind, names[kind].length, 0), NONE);
            Due.is("8: which below", x.letter(kind, -1, 0), NONE);
        }
        Due.is("8: kind beyond", x.letter(3, 0, 0), NONE);
        Due.is("8: kind below", x.letter(-1, 0, 0), NONE);
        SilentCourt y = Due.court("hall 2;mute zzzzzz keeps 1 costs 0;mute z keeps 1 costs 0;mute abcxyz keeps 1 costs 0;");
        for (int k = 0; k < 6; k++) {
            Due.is("8: six letters", y.letter(1, 0, k), 26);
            Due.is("8: one letter", y.letter(1, 1, k), k == 0 ? 26 : 0);
            Due.is("8: letters", y.letter(1, 2, k), "abcxyz".charAt(k) - 'a' + 1);
        }
    }

    private static void whoSits() {
        SilentCourt x = Due.court(HALL);
        int[][] rows = {{0, 0, 10, 20, 0, 0, 10, 6}, {2, 1, 12, 50, 0, 0, 12, 6}, {4, 2, 5, 10, 0, 0, 5, 6}};
        for (int who = 0; who < 3; who++) {
            for (int what = 0; what < 8; what++) {
                Due.is("9: sits " + who + " " + what, x.sits(who, what), rows[who][what]);
            }
            Due.is("9: others", x.sits(who, 8), NONE);
            Due.is("9: others", x.sits(who, -1), NONE);
        }
        for (int who : new int[] {-1, 3, 8, 9, 10, 11, 12, 16, Integer.MAX_VALUE, Integer.MIN_VALUE}) {
            Due.is("9: does not sit " + who, x.sits(who, 0), NONE);
        }
        Due.is("25: take", x.take(0, 0, 1), true);
        int[] mim = {1, 0, 8, 0, 2, 1, 5, 6};
        for (int what = 0; what < 8; what++) {
            Due.is("9: mim " + what, x.sits(10, what), mim[what]);
        }
        Due.is("9: jan has one beside", x.sits(0, 4), 1);
        Due.is("9: jan hates none beside", x.sits(0, 5), 0);
        Due.is("9: mim hates rob", x.sits(1, 5), 1);
        Due.is("9: so rob weighs less", x.sits(1, 6), 9);
        Due.is("10: seat", x.seat(0), 0);
        Due.is("10: seat of a mute", x.seat(1), 10);
        Due.is("10: nobody", x.seat(3), NONE);
        Due.is("10: no such seat", x.seat(5), NONE);
        Due.is("10: no such seat", x.seat(-1), NONE);
        Due.is("10: no such seat", x.seat(9), NONE);
        Due.is("11: keeps", x.mute(1, 0), 3);
        Due.is("11: costs", x.mute(1, 1), 2);
        Due.is("11: not hired", x.mute(1, 2), 0);
        Due.is("11: hired", x.mute(0, 2), 1);
        Due.is("11: others", x.mute(0, 3), NONE);
        Due.is("11: others", x.mute(0, -1), NONE);
        Due.is("11: none such", x.mute(2, 0), NONE);
        Due.is("11: none such", x.mute(-1, 0), NONE);
        // a hatred told both ways counts once; the seats are no ring
        SilentCourt y = Due.court("hall 3;person a keeps 1 itches 0 for judge at 0;person b keeps 1 itches 0 for rogue at 1;"
                + "person c keeps 1 itches 0 for nobody at 2;hates a b;hates b a;hates c a;");
        Due.is("9: once", y.sits(0, 5), 1);
        Due.is("9: near", y.sits(0, 4), 1);
        Due.is("9: near both", y.sits(1, 4), 2);
        Due.is("9: hated by one", y.sits(1, 5), 1);
        Due.is("9: c and a are not beside", y.sits(2, 5), 0);
    }

    private static void noise() {
        SilentCourt x = Due.court("hall 5;noise at 1 seat 1 loud 3;noise at 1 seat 3 loud 2;noise at 99 seat 0 loud 9;");
        int[] first = {2, 3, 3, 3, 1};
        int[] last = {9, 8, 7, 6, 5};
        for (int seat = 0; seat < 5; seat++) {
            Due.is("12: noise together", x.noise(seat, 1), first[seat]);
            Due.is("12: noise", x.noise(seat, 99), last[seat]);
            Due.is("12: none", x.noise(seat, 0), 0);
            Due.is("12: none", x.noise(seat, 999), 0);
        }
        Due.is("12: no such minute", x.noise(0, 1000), NONE);
        Due.is("12: no such minute", x.noise(0, -1), NONE);
        Due.is("12: no such seat", x.noise(5, 1), NONE);
        Due.is("12: no such seat", x.noise(-1, 1), NONE);
    }

    private static int weight(String sum) {
        return Due.court("hall 4;person a keeps 20 itches 30 for judge at 1;person b keeps 1 itches 0 for rogue at 2;"
                + "hates b a;noise at 0 seat 3 loud 4;weigh " + sum + ";").sits(0, 6);
    }

    private static long least(String sum) {
        return Due.ask(Due.court("hall 4;person a keeps 20 itches 30 for judge at 1;"), "total " + sum);
    }

    private static void sums() {
        Due.is("I: keeps", weight("keeps"), 20);
        Due.is("I: itches", weight("itches"), 30);
        Due.is("I: near", weight("near"), 1);
        Due.is("I: hated", weight("hated"), 1);
        Due.is("I: asked", weight("asked"), 0);
        Due.is("I: noise", weight("noise"), 2);
        Due.is("I: seat", weight("seat"), 1);
        Due.is("I: minute", weight("minute"), 0);
        Due.is("I: from the left", weight("20-10-5"), 5);
        Due.is("I: products first", weight("2+3*4"), 14);
        Due.is("I: from the left", weight("7/2*2"), 6);
        Due.is("I: in brackets", weight("(2+3)*4"), 20);
        Due.is("I: min", weight("min(7,3)+min(3,7)"), 6);
        Due.is("I: max", weight("max(7,3)*max(3,7)"), 49);
        Due.is("I: by 0", weight("7/0+1"), 1);
        Due.is("I: below is 0", weight("0-1"), 0);
        Due.is("I: above is 999", weight("1000"), 999);
        Due.is("I: 999", weight("999"), 999);
        Due.is("IV: floor", least("(0-7)/2"), -4);
        Due.is("IV: floor", least("7/(0-2)"), -4);
        Due.is("IV: floor", least("(0-7)/(0-2)"), 3);
        Due.is("IV: floor", least("(0-6)/2"), -3);
        Due.is("I: a million at most", least("9999*9999"), 1000000);
        Due.is("I: a million at most", least("1000*1000+1-1"), 999999);
        Due.is("I: a million at least", least("0-9999*9999-1"), -1000000);
        Due.is("I: a million at least", least("(0-1000)*1000-1+1"), -999999);
        Due.is("I: cut on the way", least("9999*9999/9999"), 100);
        Due.is("I: ten thousand", least("9999+1"), 10000);
        SilentCourt x = Due.court("hall 2;person a keeps 1 itches 0 for judge at 0;weigh 1200-minute;cough minute*200;");
        Due.is("II: cough", x.sits(0, 7), 0);
        x.minutes(3);
        Due.is("II: weight", x.sits(0, 6), 999);
        Due.is("II: cough", x.sits(0, 7), 600);
        x.minutes(100);
        x.minutes(100);
        Due.is("II: weight", x.sits(0, 6), 997);
        Due.is("II: cough", x.sits(0, 7), 999);
    }

    private static void kept() {
        SilentCourt x = Due.court("hall 3;person a keeps 1 itches 100 for judge at 0;person b keeps 1 itches 0 for judge at 1;"
                + "person c keeps 1 itches 100 for nobody at 2;cough minute*2+seat;");
        Due.is("13: none", x.kept(0, 0), NONE);
        Due.is("22: coughs", x.minutes(2), 4);
        int[][] rows = {{0, 0, 0}, {0, 2, 2}, {1, 0, 2}, {1, 2, 4}};
        for (int k = 0; k < 4; k++) {
            for (int what = 0; what < 3; what++) {
                Due.is("13: kept", x.kept(k, what), rows[k][what]);
            }
        }
        Due.is("13: beyond", x.kept(4, 0), NONE);
        Due.is("13: below", x.kept(-1, 0), NONE);
        Due.is("13: others", x.kept(0, 3), NONE);
        Due.is("13: others", x.kept(0, -1), NONE);
        Due.is("22: coughs", x.minutes(18), 36);
        Due.is("6: forty", x.has(9), 40);
        Due.is("13: the oldest", x.kept(0, 0), 0);
        x.minutes(1);
        Due.is("6: the last forty", x.has(9), 40);
        Due.is("13: the oldest is gone", x.kept(0, 0), 1);
        Due.is("13: the latest", x.kept(39, 0), 20);
        Due.is("13: the latest", x.kept(39, 2), 42);
        Due.is("13: beyond", x.kept(40, 0), NONE);
        Due.is("27: undo", x.undo(), true);
        Due.is("27: the oldest is back", x.kept(0, 0), 0);
        Due.is("27: the latest", x.kept(39, 0), 19);
    }

    private static void mean() {
        SilentCourt x = Due.court(HALL);
        Due.is("14: mean 0", x.mean(0), 0);
        Due.is("14: mean 1", x.mean(1), 380);
        Due.is("14: mean 2, with noise", x.mean(2), 700);
        Due.is("14: mean 200", x.mean(200), 200 * 380 - 60);
        Due.is("14: below", x.mean(-1), NOTHING);
        Due.is("14: beyond", x.mean(201), NOTHING);
        Due.is("14: beyond", x.mean(Integer.MAX_VALUE), NOTHING);
        Due.on(x, Due.sealed(3, 0xe7 - 5, 1, 134, 170, 0, 0, 2, 4, 0, 0, 0, 0));
        Due.is("14: minute 994", x.has(6), 994);
        Due.is("14: up to 999", x.mean(5), 1000 + 5 * 380);
        Due.is("14: beyond 999", x.mean(6), NOTHING);
        SilentCourt y = Due.court("hall 2;person a keeps 1 itches 0 for judge at 0;weigh 999;");
        Due.on(y, Due.sealed(0, 0, 3, 13, 63, 0, 0));
        Due.is("14: scale", y.scale(), 99999);
        Due.is("14: nothing cut", y.mean(2), 9999900 + 199800);
    }

    private static void odds() {
        SilentCourt x = Due.court(HALL);
        Due.is("15: more", x.odds(0), 400000);
        Due.is("15: less", x.odds(1), 500000);
        Due.is("15: as much", x.odds(2), 100000);
        Due.is("15: others", x.odds(3), NONE);
        Due.is("15: others", x.odds(-1), NONE);
        // 8 who itch by 33: all silent .67 to the 8 = .040606..., floor
        StringBuilder text = new StringBuilder("hall 9;");
        for (int k = 0; k < 8; k++) {
            text.append("person ").append((char) ('a' + k)).append(" keeps 1 itches 33 for judge at ").append(k).append(";");
        }
        SilentCourt y = Due.court(text + "cough 99;");
        Due.is("15: more, floor", y.odds(0), 40606);
        Due.is("15: less, floor", y.odds(1), 959393);
        Due.is("15: as much", y.odds(2), 0);
        // of the minute alone: the scale doesn't matter, nor does the last minute
        Due.on(y, Due.sealed(3, 0xe7, 0, 0, 1, 0, 0, 1, 2, 3, 4, 5, 6, 7));
        Due.is("15: minute 999", y.has(6), 999);
        Due.is("15: of the minute alone", y.odds(0), 40606);
    }

    private static void hire() {
        SilentCourt x = Due.court(HALL);
        int[][] rows = {{0, 1, 1000, 1, 1, 9}, {0, 1, 300, 0, 0, 0}, {0, 1, 380, 0, 0, 0}, {0, 1, 381, 1, 2, 2},
            {0, 1, 1330, 2, 3, 11}, {1, 1, -300, 1, 2, 2}, {1, 1, -380, 0, 0, 0}};
        for (int[] row : rows) {
            for (int what = 0; what < 3; what++) {
                Due.is("16: hire " + row[2] + " " + what, x.hire(row[0], row[1], row[2], what), row[3 + what]);
            }
        }
        Due.is("16: can't be", x.hire(0, 1, 1331, 0), NONE);
        Due.is("16: party", x.hire(2, 1, 0, 0), NONE);
        Due.is("16: party", x.hire(-1, 1, 0, 0), NONE);
        Due.is("16: minutes", x.hire(0, 51, 0, 0), NONE);
        Due.is("16: minutes", x.hire(0, 0, 0, 0), NONE);
        Due.is("16: others", x.hire(0, 1, 0, 3), NONE);
        Due.is("16: others", x.hire(0, 1, 0, -1), NONE);
        x.take(1, 0, 1);
        Due.is("16: one hired already", x.hire(0, 1, 1330, 1), 1);
        SilentCourt w = Due.court("hall 3;mute b keeps 5 costs 4;mute c keeps 50 costs 0;weigh keeps*seat;");
        w.take(1, 0, 0);
        Due.is("16: who is hired stays where he is", w.hire(0, 1, 5000, 0), NONE);
        Due.is("16: the other one", w.hire(0, 1, 500, 1), 1);
        // of like many the least costs, then the least bits; no more than there are seats
        SilentCourt y = Due.court("hall 3;person a keeps 1 itches 0 for rogue at 1;mute b keeps 5 costs 4;mute c keeps 5 costs 3;"
                + "mute d keeps 5 costs 3;mute e keeps 9 costs 99;");
        Due.is("16: least costs, least bits", y.hire(0, 2, 800, 1), 2);
        Due.is("16: least costs, least bits", y.hire(0, 2, 900, 1), 8);
        Due.is("16: two", y.hire(0, 2, 1700, 1), 6);
        Due.is("16: two", y.hire(0, 2, 1700, 2), 6);
        Due.is("16: two dear ones", y.hire(0, 2, 2500, 1), 10);
        Due.is("16: no third seat", y.hire(0, 2, 2700, 1), NONE);
        Due.is("16: the rogue's", y.hire(1, 2, 1200, 1), 2);
        Due.is("16: the rogue's", y.hire(1, 50, 5000, 0), 0);
        // the first seat in which nobody sits: seat 0, then 2
        SilentCourt z = Due.court("hall 3;person a keeps 1 itches 0 for nobody at 1;mute b keeps 5 costs 4;mute c keeps 5 costs 3;"
                + "weigh seat+1;");
        Due.is("16: one sits in the first", z.hire(0, 1, 101, 1), 3);
        Due.is("16: the other one in the last", z.hire(0, 1, 400, 1), 3);
        Due.is("16: not more", z.hire(0, 1, 401, 1), NONE);
        Due.on(z, Due.sealed(3, 0xe7 - 1, 1, 134, 160, 0, 1, 0, 0, 0, 0));
        Due.is("16: up to 999", z.hire(0, 1, 400, 0), 2);
        Due.is("16: beyond 999", z.hire(0, 2, 0, 0), NONE);
    }

    private static void change() {
        SilentCourt x = Due.court("hall 4;person a keeps 20 itches 0 for judge at 0;person b keeps 30 itches 0 for judge at 1;"
                + "person c keeps 1 itches 0 for rogue at 3;mute m keeps 9 costs 1;weigh keeps+seat*seat;");
        // seats 0 1 3: judge has 20 + 30 + 1, rogue 1 + 9
        Due.is("17: judge", x.change(0, 0), 0);
        Due.is("17: judge", x.change(0, 1), 2);
        Due.is("17: rogue: none is better", x.change(1, 0), NONE);
        Due.is("17: rogue: none is better", x.change(1, 1), NONE);
        Due.is("17: party", x.change(2, 0), NONE);
        Due.is("17: party", x.change(-1, 0), NONE);
        Due.is("17: others", x.change(0, 2), NONE);
        Due.is("17: others", x.change(0, -1), NONE);
        x.take(0, 1, 2);
        x.move(2, 0);
        // now c 0, b 1, m 2 (rogue), a 3: the rogue had best have c and a change
        Due.is("17: rogue", x.change(1, 0), 0);
        Due.is("17: rogue", x.change(1, 1), 2);
        x.move(2, 3);
        // now a 0, b 1, m 2, c 3: b with c gives the judge 16 more, a with c 18
        Due.is("17: best", x.change(0, 0), 0);
        Due.is("17: best", x.change(0, 1), 2);
        SilentCourt y = Due.court("hall 3;person a keeps 5 itches 0 for rogue at 2;person b keeps 5 itches 0 for judge at 1;"
                + "mute m keeps 9 costs 1;weigh keeps+seat;");
        y.take(0, 0, 0);
        // a 2 with m 0 gives 2 + 2, with b 1 + 1
        Due.is("17: with a mute", y.change(0, 0), 0);
        Due.is("17: with a mute", y.change(0, 1), 10);
        SilentCourt z = Due.court("hall 4;person a keeps 5 itches 0 for rogue at 2;person b keeps 5 itches 0 for rogue at 3;"
                + "person c keeps 5 itches 0 for judge at 0;person d keeps 5 itches 0 for judge at 1;weigh keeps+max(seat-1,0)/2;");
        // only seat 3 weighs one more: b with c, b with d are alike
        Due.is("17: the first by numbers", z.change(0, 0), 1);
        Due.is("17: the first by numbers", z.change(0, 1), 2);
        Due.on(z, Due.sealed(3, 0xe7, 1, 134, 160, 0, 2, 3, 0, 1));
        Due.is("17: minute 999, too", z.change(0, 1), 2);
    }

    private static void points() {
        SilentCourt x = Due.court(HALL);
        Due.is("18: one", x.points(1, NONE), 650);
        Due.is("18: two", x.points(2, NONE), 620);
        Due.is("18: three", x.points(3, NONE), 1270);
        int[] turns = {0, 1, 0};
        for (int n = 1; n <= 3; n++) {
            for (int k = 0; k < n; k++) {
                Due.is("18: turn", x.points(n, k), turns[k]);
            }
            Due.is("18: others", x.points(n, n), NOTHING);
            Due.is("18: others", x.points(n, -2), NOTHING);
        }
        Due.is("18: n", x.points(4, NONE), NOTHING);
        Due.is("18: n", x.points(0, NONE), NOTHING);
        Due.is("18: n", x.points(-1, NONE), NOTHING);
        Due.is("18: without points", Due.court("hall 3;").points(1, NONE), NOTHING);
        Due.on(x, Due.sealed(3, 0xe7 - 2, 1, 134, 160, 1, 0, 2, 4, 0, 0, 0, 0));
        Due.is("18: up to 999", x.points(2, 1), 1);
        Due.is("18: beyond 999", x.points(3, 0), NOTHING);
        SilentCourt y = Due.court("hall 3;person a keeps 1 itches 0 for judge at 0;point p judge 1 rogue 5;point q judge 2 rogue 9;"
                + "point r judge 2 rogue 0;weigh asked;");
        Due.is("18: of like ones the first", y.points(1, 0), 1);
        Due.is("18: the rogue's best", y.points(2, 1), 0);
        Due.is("18: mean", y.points(3, NONE), 500);
        SilentCourt z = Due.court("hall 3;person a keeps 1 itches 0 for judge at 0;point p judge 1 rogue 5;point q judge 3 rogue 9;"
                + "weigh 2+asked*(1-minute*2)+max(0,minute-1)*99;");
        // minute 0: 2 + asked, minute 1: 2 - asked, minute 2: 2 - 3 asked + 99
        Due.is("18: ahead of each its own minute", z.points(3, 0), 1);
        Due.is("18: ahead of each its own minute", z.points(3, 1), 1);
        Due.is("18: ahead of each its own minute", z.points(3, 2), 0);
        Due.is("18: mean", z.points(3, NONE), 500 + 0 + 9800);
    }

    private static void fellAndAsked() {
        SilentCourt x = Due.court(HALL);
        int[][] fell = {{-2, 2, 0, 4}, {16, 2, 2, 6}, {0, 2, 3, 7}, {-18, 2, 1, 5}, {5, 0, 0, 0}};
        for (int[] row : fell) {
            for (int what = 0; what < 3; what++) {
                Due.is("19: fell " + row[0], x.fell(row[0], what), row[1 + what]);
            }
        }
        Due.is("19: others", x.fell(0, 3), NONE);
        Due.is("19: others", x.fell(0, -1), NONE);
        SilentCourt y = Due.court("hall 3;person a keeps 3 itches 0 for judge at 0;person b keeps 3 itches 100 for judge at 1;");
        Due.is("19: who itches by 0 can't cough", y.fell(-2, 0), 1);
        Due.is("19: who itches by 0 can't cough", y.fell(-2, 1), 2);
        Due.is("19: who itches by 100 may be silent", y.fell(6, 0), 1);
        Due.is("19: who itches by 0 can't cough", y.fell(-10, 0), 0);
        // jan 10 + asked, rob 12 + asked
        Due.is("20: why", x.asked(1, 0), 1);
        Due.is("20: who", x.asked(-9, 0), 2);
        Due.is("20: neither", x.asked(-2, 0), 0);
        Due.is("20: rob coughs: why", x.asked(20, 2), 1);
        Due.is("20: rob coughs: who", x.asked(16, 2), 2);
        Due.is("20: jan and rob cough: both", x.asked(0, 3), 3);
        Due.is("20: ned, too", x.asked(0, 7), 3);
        Due.is("20: none such", x.asked(0, 8), NONE);
        Due.is("20: none such", x.asked(0, -1), NONE);
        x.point(1);
        Due.is("20: as if asked last", x.asked(1, 0), 1);
    }

    private static void loudest() {
        SilentCourt x = Due.court("hall 5;person a keeps 50 itches 0 for judge at 0;person b keeps 50 itches 0 for rogue at 4;"
                + "noise at 0 seat 2 loud 9;noise at 1 seat 0 loud 3;noise at 2 seat 4 loud 4;noise at 2 seat 0 loud 4;weigh keeps-noise;");
        Due.is("21: alike for both is nothing", x.loudest(1), 0);
        Due.is("21: two minutes", x.loudest(2), 1);
        Due.is("21: of like ones the first", x.loudest(3), 2);
        Due.is("21: all", x.loudest(200), 2);
        Due.is("21: n", x.loudest(201), NONE);
        Due.is("21: n", x.loudest(0), NONE);
        Due.is("21: n", x.loudest(-1), NONE);
        x.minutes(2);
        Due.is("21: from now on", x.loudest(1), 2);
        x.minutes(1);
        Due.is("21: none matters", x.loudest(1), 0);
        Due.on(x, Due.sealed(3, 0xe7 - 1, 1, 134, 160, 0, 0, 4));
        Due.is("21: up to 999", x.loudest(1), 0);
        Due.is("21: beyond 999", x.loudest(2), NONE);
        SilentCourt y = Due.court("hall 2;person a keeps 50 itches 99 for judge at 0;noise at 0 seat 1 loud 1;noise at 0 seat 0 loud 1;"
                + "weigh keeps-noise;");
        Due.is("21: by a hundredth", y.loudest(1), 1);
        Due.is("21: without noises", Due.court("hall 3;").loudest(1), NONE);
    }

    private static void minutes() {
        SilentCourt x = Due.court(HALL);
        // by the seed 1 the draws are 18, 99, 26, ...: worked out apart from the class
        long seed = 1;
        int scale = 0;
        int coughs = 0;
        for (int minute = 0; minute < 30; minute++) {
            boolean[] coughing = new boolean[3];
            int[] itches = {20, 50, 10};
            for (int who = 0; who < 3; who++) {
                seed = (1103515245L * seed + 12345) % 2147483648L;
                coughing[who] = seed / 64 % 100 < itches[who];
                coughs += coughing[who] ? 1 : 0;
            }
            int less = minute == 1 ? 2 : 0;
            scale += (coughing[0] ? -6 : 10 - less) - (coughing[1] ? -6 : 12 - less);
        }
        Due.is("22: coughs", x.minutes(30), coughs);
        Due.is("22: scale", x.scale(), scale);
        Due.is("22: minute", x.has(6), 30);
        Due.is("22: one act", x.has(10), 1);
        Due.is("22: n", x.minutes(0), NONE);
        Due.is("22: n", x.minutes(101), NONE);
        Due.is("22: n", x.minutes(-5), NONE);
        Due.is("22: refused", x.status(2), 3);
        Due.is("22: no act", x.has(10), 1);
        for (int k = 0; k < 9; k++) {
            x.minutes(100);
        }
        Due.is("22: minute", x.has(6), 930);
        Due.is("22: beyond 999", x.minutes(70), NONE);
        Due.is("22: up to 999", x.minutes(69) != NONE, true);
        Due.is("22: minute", x.has(6), 999);
        Due.is("22: no more", x.minutes(1), NONE);
        Due.is("22: refused", x.status(2), 5);
        Due.is("22: without people", Due.court("hall 2;").minutes(100), 0);
    }

    private static void cuts() {
        SilentCourt x = Due.court("hall 2;person a keeps 1 itches 0 for judge at 0;mute m keeps 1 costs 0;weigh 999;");
        x.minutes(100);
        Due.is("7: scale", x.scale(), 99900);
        x.minutes(1);
        Due.is("7: cut", x.scale(), 99999);
        x.minutes(1);
        Due.is("7: cut", x.scale(), 99999);
        Due.is("27: undo", x.undo() && x.undo(), true);
        Due.is("27: the scale is back", x.scale(), 99900);
        SilentCourt y = Due.court("hall 2;person a keeps 1 itches 0 for rogue at 0;person b keeps 9 itches 0 for judge at 1;weigh 1100-keeps*200;");
        for (int k = 0; k < 9; k++) {
            y.minutes(100);
        }
        Due.is("7: cut below", y.scale(), -99999);
        y.minutes(99);
        Due.is("7: cut below", y.scale(), -99999);
    }

    private static void acts() {
        SilentCourt x = Due.court(HALL);
        Due.is("23: none already", x.point(NONE), false);
        Due.is("23: point", x.point(0), true);
        Due.is("23: it is so already", x.point(0), false);
        Due.is("23: asked for the judge", x.sits(0, 6), 14);
        Due.is("23: asked for the rogue", x.sits(1, 6), 13);
        Due.is("23: for nobody", x.sits(2, 6), 5);
        Due.is("23: point", x.point(1), true);
        Due.is("23: asked last", x.sits(1, 6), 19);
        Due.is("23: none such", x.point(2), false);
        Due.is("23: none such", x.point(-2), false);
        Due.is("23: none any more", x.point(NONE), true);
        Due.is("23: none any more", x.sits(1, 6), 12);
        Due.is("23: refused", x.status(3), 4);
        Due.is("24: own seat", x.move(0, 0), false);
        Due.is("24: no such seat", x.move(0, 5), false);
        Due.is("24: no such seat", x.move(0, -1), false);
        Due.is("24: does not sit", x.move(3, 1), false);
        Due.is("24: does not sit", x.move(10, 1), false);
        Due.is("24: does not sit", x.move(-1, 1), false);
        Due.is("24: does not sit", x.move(99, 1), false);
        Due.is("24: move", x.move(0, 1), true);
        Due.is("24: he is there", x.seat(1), 0);
        Due.is("24: his own is free", x.seat(0), NONE);
        Due.is("24: change with rob", x.move(0, 2), true);
        Due.is("24: change", x.seat(2), 0);
        Due.is("24: change", x.seat(1), 1);
        Due.is("24: change", x.sits(1, 0), 1);
        Due.is("24: refused", x.status(3), 11);
        Due.is("25: seat taken", x.take(0, 0, 1), false);
        Due.is("25: no such seat", x.take(0, 0, 5), false);
        Due.is("25: no such seat", x.take(0, 0, -1), false);
        Due.is("25: no such party", x.take(0, 2, 0), false);
        Due.is("25: no such party", x.take(0, -1, 0), false);
        Due.is("25: no such mute", x.take(2, 0, 0), false);
        Due.is("25: no such mute", x.take(-1, 0, 0), false);
        Due.is("25: no such mute", x.take(Integer.MAX_VALUE, 0, 0), false);
        Due.is("25: take", x.take(1, 1, 0), true);
        Due.is("25: he sits", x.seat(0), 11);
        Due.is("25: for the rogue", x.sits(11, 1), 1);
        Due.is("25: hired already", x.take(1, 1, 3), false);
        Due.is("24: a mute moves", x.move(11, 4), true);
        Due.is("24: ned came to his", x.seat(0), 2);
        Due.is("26: not hired", x.dismiss(0), false);
        Due.is("26: none such", x.dismiss(2), false);
        Due.is("26: none such", x.dismiss(-1), false);
        Due.is("26: dismiss", x.dismiss(1), true);
        Due.is("26: dismissed", x.seat(4), NONE);
        Due.is("26: dismissed", x.sits(11, 0), NONE);
        Due.is("26: dismissed already", x.dismiss(1), false);
        Due.is("26: take again", x.take(1, 0, 4), true);
        Due.is("26: for the judge", x.sits(11, 1), 0);
        Due.is("26: refused", x.status(3), 24);
        Due.is("6: acts", x.has(10), 9);
        SilentCourt y = Due.court("hall 2;mute m keeps 1 costs 1;mute n keeps 2 costs 1;");
        y.take(0, 0, 0);
        y.dismiss(0);
        Due.is("26: the first seat is free again", y.seat(0), NONE);
        Due.is("25: for another one", y.take(1, 0, 0), true);
        Due.is("25: for another one", y.seat(0), 11);
    }

    private static void undo() {
        SilentCourt x = Due.court(HALL);
        Due.is("27: none", x.undo(), false);
        Due.is("27: refused", x.status(4), 1);
        x.point(0);
        x.move(0, 2);
        x.take(1, 1, 1);
        x.minutes(5);
        x.dismiss(1);
        Due.is("27: dismiss", x.undo(), true);
        Due.is("27: he is back", x.seat(1), 11);
        Due.is("27: he is back", x.sits(11, 1), 1);
        Due.is("27: minutes", x.undo(), true);
        Due.is("27: minutes", x.has(6), 0);
        Due.is("27: scale", x.scale(), 0);
        Due.is("27: kept", x.has(9), 0);
        Due.is("27: take", x.undo(), true);
        Due.is("27: he is gone", x.has(5), 0);
        Due.is("27: move", x.undo(), true);
        Due.is("27: rob is back", x.seat(2), 1);
        Due.is("27: jan is back", x.seat(0), 0);
        Due.is("27: point", x.undo(), true);
        Due.is("27: none asked", x.has(7), NONE);
        Due.is("27: none", x.undo(), false);
        for (int k = 0; k < 25; k++) {
            x.point(k % 2);
        }
        Due.is("27: twenty", x.has(10), 20);
        for (int k = 0; k < 20; k++) {
            Due.is("27: undo", x.undo(), true);
            Due.is("27: asked ahead of it", x.has(7), (k + 1) % 2);
        }
        Due.is("27: no more", x.undo(), false);
        Due.is("27: refused", x.status(4), 3);
        x.seed(5);
        int first = x.minutes(100);
        x.undo();
        int second = x.minutes(100);
        x.undo();
        x.seed(5);
        Due.is("27: the same seed", x.minutes(100), first);
        Due.is("27: the seed stays when undone", x.minutes(100), second);
    }

    private static void seed() {
        SilentCourt x = Due.court("hall 2;person a keeps 1 itches 19 for judge at 0;");
        SilentCourt y = Due.court("hall 2;person a keeps 1 itches 18 for judge at 0;");
        // 1103527590 / 64 = 17242618
        Due.is("28: 1 at first, a draw of 18", x.minutes(1), 1);
        Due.is("28: 18 is not below 18", y.minutes(1), 0);
        Due.is("28: seed 0", x.seed(0), true);
        Due.is("28: seed greatest", x.seed(Integer.MAX_VALUE), true);
        Due.is("28: below 0", x.seed(-1), false);
        Due.is("28: below 0", x.seed(Integer.MIN_VALUE), false);
        Due.is("28: refused", x.status(5), 2);
        Due.is("28: no act", x.has(10), 1);
        // (1103515245 (2^31 - 1) + 12345) mod 2^31 = 1043980748; / 64 = 16312199
        Due.is("28: a draw of 99", x.minutes(1), 0);
        // 12345 / 64 = 192
        y.seed(0);
        Due.is("28: a draw of 92", y.minutes(1), 0);
        SilentCourt z = Due.court("hall 2;person a keeps 1 itches 93 for judge at 0;");
        z.seed(0);
        Due.is("28: 92 is below 93", z.minutes(1), 1);
        SilentCourt no = new SilentCourt();
        Due.is("28: without a hall", no.seed(3), true);
    }

    private static void ask() {
        SilentCourt x = Due.court(HALL);
        Object[][] rows = {{"total keeps", 27}, {"often itches>15", 2}, {"first party=1", 1}, {"most seat", 4}, {"total near", 0},
            {"total beside 0", 0}, {"first minute=0", 0}, {"often all", 3}, {"last all", 2}, {"total number", 3},
            {"least 0-keeps", -12}, {"first keeps>12", NONE}, {"last not all", NONE}, {"often not all", 0},
            {"first party=0 or party=2", 0}, {"last party=0 or party=2", 2}, {"often keeps<11 and itches<15", 1},
            {"often party=0 or party=1 and keeps=0", 1}, {"often [party=0 or party=1] and keeps=0", 0},
            {"often not party=0 and party=0", 0}, {"often not [party=0 and party=1]", 3}, {"most 0-keeps", -5},
            {"least keeps", 5}, {"total 9999*9999", 3000000}, {"total asked", 0}, {"total party", 3}, {"total hated", 0}};
        for (Object[] row : rows) {
            Due.is("29: " + row[0], Due.ask(x, (String) row[0]), (Integer) row[1]);
        }
        x.take(0, 1, 1);
        x.point(0);
        Object[][] then = {{"total beside 0", 1}, {"first beside 0=1", 10}, {"last all", 10}, {"total beside 10", 2},
            {"total beside 9", 0}, {"total beside (0-1)", 0}, {"total beside 11", 0}, {"total beside 9999", 0}, {"total near", 4},
            {"total hated", 2}, {"total asked", 6}, {"first number>2", 10}, {"total beside number", 0}, {"total beside beside 10", 1},
            {"total beside min(10,20)*3", 6}, {"first itches=0", 10}, {"total beside 0+1", 5}};
        for (Object[] row : then) {
            Due.is("29: " + row[0], Due.ask(x, (String) row[0]), (Integer) row[1]);
        }
        x.minutes(1);
        Due.is("29: noise", Due.ask(x, "total noise"), 7);
        Due.is("29: minute", Due.ask(x, "most minute"), 1);
        Due.is("29: with a fault", Due.ask(x, "total"), NOTHING);
        Due.is("29: the tape goes", x.feed(0, 0, 0, 0, 0), 20);
        SilentCourt y = Due.court("hall 2;");
        Due.is("29: nobody sits", Due.ask(y, "most 7"), 0);
        Due.is("29: nobody sits", Due.ask(y, "least 7"), 0);
        Due.is("29: nobody sits", Due.ask(y, "total 7"), 0);
        Due.is("29: nobody sits", Due.ask(y, "first all"), NONE);
        Due.is("29: nobody sits", Due.ask(y, "last all"), NONE);
        Due.is("29: nobody sits", Due.ask(y, "often all"), 0);
        Due.is("29: without a hall", Due.ask(new SilentCourt(), "often all"), NOTHING);
    }

    private static void image() {
        SilentCourt x = Due.court(HALL);
        x.take(1, 1, 3);
        x.point(1);
        x.minutes(100);
        x.minutes(100);
        x.minutes(100);
        int scale = x.scale() + 100000;
        int[] due = Due.sealed(1, 44, scale / 65536, scale / 256 % 256, scale % 256, 2, 0, 2, 4, 0, 0, 4, 1);
        Due.is("30: image", x.image(), 14);
        x.dismiss(1);
        for (int k = 0; k < 14; k++) {
            Due.is("31: octet " + k, x.octet(k), due[k]);
        }
        Due.is("31: beyond", x.octet(14), NONE);
        Due.is("31: below", x.octet(-1), NONE);
        Due.is("30: image", x.image(), 14);
        Due.is("31: dismissed", x.octet(11) + x.octet(12), 0);
        StringBuilder all = new StringBuilder("hall 9;");
        for (int k = 0; k < 8; k++) {
            all.append("person a").append((char) ('a' + k)).append(" keeps 1 itches 0 for judge at ").append(8 - k).append(";");
        }
        for (int k = 0; k < 6; k++) {
            all.append("mute m").append((char) ('a' + k)).append(" keeps 1 costs 0;");
        }
        SilentCourt full = Due.court(all.toString());
        full.take(5, 1, 0);
        int[] most = Due.sealed(0, 0, 1, 134, 160, 0, 8, 7, 6, 5, 4, 3, 2, 1, 0, 0, 0, 0, 0, 0, 0, 0, 0, 0, 1, 1);
        Due.is("30: the longest", full.image(), 27);
        for (int k = 0; k < 27; k++) {
            Due.is("31: octet " + k, full.octet(k), most[k]);
        }
        Due.is("31: beyond", full.octet(27), NONE);
        Due.is("32: the longest", Due.on(full, most), true);
        SilentCourt y = Due.court("hall 2;");
        Due.is("30: nobody", y.image(), 7);
        Due.is("31: the last byte", y.octet(6), 233);
        Due.is("31: no longer there", y.octet(7), NONE);
    }

    private static void on() {
        SilentCourt x = Due.court(HALL);
        int[] good = {3, 231, 0, 0, 1, 2, 4, 0, 1, 3, 1, 0, 0};
        x.minutes(10);
        x.seed(9);
        Due.is("32: on", Due.on(x, Due.sealed(good)), true);
        Due.is("32: minute", x.has(6), 999);
        Due.is("32: scale", x.scale(), -99999);
        Due.is("32: asked", x.has(7), 1);
        Due.is("32: jan", x.sits(0, 0), 4);
        Due.is("32: rob", x.seat(0), 1);
        Due.is("32: ned is for nobody", x.sits(2, 1), 2);
        Due.is("32: mim", x.sits(10, 0), 2);
        Due.is("32: mim", x.sits(10, 1), 1);
        Due.is("32: mum", x.mute(1, 2), 0);
        Due.is("32: nothing kept", x.has(9), 0);
        Due.is("32: nothing to undo", x.undo(), false);
        Due.is("32: the tape goes", x.feed(0, 0, 0, 0, 0), 20);
        x.end(0);
        int[][] wrong = {{3, 232, 0, 0, 1, 2, 4, 0, 1, 3, 1, 0, 0}, {255, 255, 0, 0, 1, 2, 4, 0, 1, 3, 1, 0, 0},
            {3, 231, 0, 0, 0, 2, 4, 0, 1, 3, 1, 0, 0}, {3, 231, 3, 13, 64, 2, 4, 0, 1, 3, 1, 0, 0},
            {3, 231, 255, 255, 255, 2, 4, 0, 1, 3, 1, 0, 0}, {3, 231, 0, 0, 1, 3, 4, 0, 1, 3, 1, 0, 0},
            {3, 231, 0, 0, 1, 2, 5, 0, 1, 3, 1, 0, 0}, {3, 231, 0, 0, 1, 2, 0, 0, 1, 3, 1, 0, 0},
            {3, 231, 0, 0, 1, 2, 4, 0, 2, 3, 1, 0, 0}, {3, 231, 0, 0, 1, 2, 4, 0, 1, 6, 1, 0, 0},
            {3, 231, 0, 0, 1, 2, 4, 0, 1, 3, 2, 0, 0}, {3, 231, 0, 0, 1, 2, 4, 0, 1, 3, 1, 0, 1},
            {3, 231, 0, 0, 1, 2, 4, 0, 1, 3, 1, 3, 0}, {3, 231, 0, 0, 1, 2, 4, 0, 1, 3, 1, 0},
            {3, 231, 0, 0, 1, 2, 4, 0, 1, 3, 1, 0, 0, 0}, {}};
        Due.on(x, Due.sealed(0, 7, 1, 134, 161, 0, 0, 2, 4, 0, 0, 0, 0));
        x.point(0);
        int before = x.status(5);
        for (int[] row : wrong) {
            Due.is("32: none", Due.on(x, Due.sealed(row)), false);
        }
        Due.is("32: nothing on the tape", Due.on(x), false);
        int[] seal = Due.sealed(good);
        seal[13]++;
        Due.is("32: the last byte", Due.on(x, seal), false);
        Due.is("32: refused", x.status(5) - before, wrong.length + 2);
        Due.is("32: the tape goes", x.feed(0, 0, 0, 0, 0), 20);
        Due.is("32: all stays", x.has(6) * 100 + x.scale() * 10 + x.has(10), 711);
        Due.is("32: greatest scale", Due.on(x, Due.sealed(0, 0, 3, 13, 63, 0, 0, 1, 2, 4, 0, 5, 1)), true);
        Due.is("32: greatest scale", x.scale(), 99999);
        Due.is("32: mim, for the judge", x.sits(10, 1), 0);
        Due.is("32: mum, for the rogue", x.sits(11, 1), 1);
        SilentCourt y = new SilentCourt();
        Due.is("32: no hall", Due.on(y, Due.sealed(0, 0, 1, 134, 160, 0)), false);
        Due.is("32: the tape goes", y.feed(0, 0, 0, 0, 0), 20);
        Due.is("32: refused", y.status(5), 1);
    }

    private static void status() {
        SilentCourt x = new SilentCourt();
        x.end(1);
        x.end(-1);
        x.hall();
        x.minutes(1);
        x.point(0);
        x.point(NONE);
        x.move(0, 0);
        x.take(0, 0, 0);
        x.dismiss(0);
        x.undo();
        x.undo();
        x.seed(-1);
        x.on();
        x.ask();
        x.octet(-1);
        int[] due = {2, 1, 1, 5, 2, 2};
        for (int what = 0; what < 6; what++) {
            Due.is("33: status " + what, x.status(what), due[what]);
        }
        Due.is("33: others", x.status(6), NONE);
        Due.is("33: others", x.status(-1), NONE);
        SilentCourt y = Due.court(HALL);
        for (int what = 0; what < 6; what++) {
            Due.is("33: of each object its own", y.status(what), 0);
        }
    }
}
