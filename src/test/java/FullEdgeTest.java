/** As many of each kind as there can be: what the last one of them does counts in every call. */
public final class FullEdgeTest {
    private static final int NONE = SilentCourt.NONE;
    private static final String MUTES = "mute ma keeps 1 costs 99;mute mb keeps 2 costs 99;mute mc keeps 3 costs 99;"
            + "mute md keeps 4 costs 99;mute me keeps 5 costs 99;mute zyxwvu keeps 6 costs 98;";

    private FullEdgeTest() {
    }

    public static void main(String[] args) {
        names();
        whoSits();
        means();
        change();
        hireAll();
        hireSeats();
        odds();
        fellAndAsked();
        loudest();
        coughs();
        undo();
        questions();
        images();
        Due.named("Promise 8", "Promise 9", "Promise 10", "Promise 14", "Promise 15", "Promise 16", "Promise 17", "Promise 19",
                "Promise 20", "Promise 21", "Promise 22", "Promise 27", "Promise 32", "Term II", "Term III", "Term IV");
        Due.end();
    }

    /** PEOPLE pa, pb and so on, in SEATS 0, 1 and so on; the last one is told apart. */
    private static String people(int many, int itches, String party, String last) {
        StringBuilder all = new StringBuilder();
        for (int k = 0; k < many; k++) {
            all.append("person p").append((char) ('a' + k)).append(" keeps 1 itches ");
            all.append(k < many - 1 ? itches + " for " + party : last).append(" at ").append(k).append(";");
        }
        return all.toString();
    }

    private static SilentCourt court(int seats, String rest) {
        return Due.court("hall " + seats + ";" + rest);
    }

    /** All six MUTES sit in SEATS 3 to 8: the last one for the rogue, those ahead of him for the judge. */
    private static SilentCourt nineSit(String rest) {
        SilentCourt x = court(9, people(3, 0, "nobody", "0 for nobody") + MUTES + rest);
        for (int k = 0; k < 6; k++) {
            Due.is("mute " + k + " is hired", x.take(k, k == 5 ? 1 : 0, 3 + k), true);
        }
        return x;
    }

    private static void names() {
        Due.by("Promise 8", "Letter k (0 .. 5) of the NAME of one of the PEOPLE (kind 0), a MUTE (1), a POINT (2):");
        SilentCourt x = court(9, people(8, 0, "judge", "0 for judge") + MUTES);
        Due.is("the last of the people", x.letter(0, 7, 0) * 100 + x.letter(0, 7, 1), 1608);
        for (int k = 0; k < 6; k++) {
            Due.is("the last mute", x.letter(1, 5, k), 26 - k);
        }
        Due.is("no ninth of the people", x.letter(0, 8, 0), NONE);
        Due.is("no seventh mute", x.letter(1, 6, 0), NONE);
    }

    private static void whoSits() {
        Due.by("Promise 10", "Who sits in a SEAT, by number;");
        SilentCourt x = nineSit("hates zyxwvu me;hates pa zyxwvu;");
        int[] who = {0, 1, 2, 10, 11, 12, 13, 14, 15};
        for (int seat = 0; seat < 9; seat++) {
            Due.is("seat " + seat, x.seat(seat), who[seat]);
        }
        Due.by("Promise 9", "Of who sits (by number): 0 SEAT, 1 PARTY (0 judge, 1 rogue, 2 nobody), 2 what he keeps, 3 how he itches, "
                + "4 how many sit beside him, 5 how many of these he hates or hate him, 6 his WEIGHT, 7 his COUGH.");
        int[] last = {8, 1, 6, 0, 1, 1, 6, 5};
        for (int what = 0; what < 8; what++) {
            Due.is("the last mute " + what, x.sits(15, what), last[what]);
        }
        Due.is("whom he hates", x.sits(14, 5), 1);
        x.move(15, 1);
        Due.is("between one who hates him and one who does not", x.sits(15, 4) * 10 + x.sits(15, 5), 21);
        Due.is("whom he hated is far off", x.sits(14, 5), 0);
        SilentCourt eight = court(9, people(8, 1, "judge", "100 for rogue") + "hates ph pa;");
        int[] eighth = {7, 1, 1, 100, 1, 0, 1, 5};
        for (int what = 0; what < 8; what++) {
            Due.is("the last of the people " + what, eight.sits(7, what), eighth[what]);
        }
    }

    private static void means() {
        Due.by("Promise 14", "MEAN of n MINUTES (0 .. 200), in hundredths;");
        SilentCourt x = nineSit("");
        Due.is("15 against 6", x.mean(1), 900);
        Due.is("two minutes", x.mean(2), 1800);
        Due.by("Promise 22", "n MINUTES by the seed (1 .. 100), one ACT: how many coughs;");
        Due.is("none coughs", x.minutes(1), 0);
        Due.is("15 against 6", x.scale(), 9);
        SilentCourt y = court(9, people(8, 0, "nobody", "50 for judge") + "cough 3;");
        Due.is("the last of the people", y.mean(1), 50 - 150);
    }

    private static void change() {
        Due.by("Promise 17", "CHANGE for a PARTY (0, 1): the one (what 0), the other one (1), by number.");
        SilentCourt x = court(2, MUTES + "weigh seat;");
        x.take(4, 0, 0);
        x.take(5, 1, 1);
        Due.is("the last mute but one", x.change(0, 0), 14);
        Due.is("with the last mute", x.change(0, 1), 15);
        SilentCourt y = court(9, people(8, 0, "nobody", "0 for rogue") + MUTES + "weigh seat;");
        y.take(5, 0, 8);
        Due.is("the rogue sends the last mute to the first seat", y.change(1, 0), 0);
        Due.is("the rogue sends the last mute to the first seat", y.change(1, 1), 15);
        Due.is("the judge sends the last of the people there", y.change(0, 0), 0);
        Due.is("the judge sends the last of the people there", y.change(0, 1), 7);
    }

    private static void hireAll() {
        Due.by("Promise 16", "how many (what 0), which as bits (1), what they cost (2).");
        SilentCourt x = court(9, MUTES);
        Due.is("all six", x.hire(0, 1, 2100, 0), 6);
        Due.is("as bits", x.hire(0, 1, 2100, 1), 63);
        Due.is("they cost", x.hire(0, 1, 2100, 2), 593);
        Due.is("a hundredth more", x.hire(0, 1, 2101, 0), NONE);
        Due.is("the last one alone", x.hire(1, 50, 30000, 1), 32);
        Due.is("he costs", x.hire(1, 50, 30000, 2), 98);
        Due.is("all but the first", x.hire(1, 1, 2000, 1), 62);
        x.take(5, 0, 8);
        Due.is("the last one is hired already", x.hire(0, 1, 2100, 1), 31);
        Due.is("the last one is hired already", x.hire(1, 1, 1501 - 600, 1), NONE);
        Due.is("the last one is hired already", x.hire(1, 1, 1500 - 600, 1), 31);
    }

    private static void hireSeats() {
        Due.by("Term III", "by numbers, each in the first SEAT in which nobody sits:");
        SilentCourt x = court(9, people(8, 0, "nobody", "0 for nobody") + MUTES + "weigh keeps+seat*10;");
        Due.is("the last seat alone is free", x.hire(0, 1, 8600, 1), 32);
        Due.is("for one alone", x.hire(0, 1, 8601, 0), NONE);
        x.take(0, 1, 8);
        Due.is("no seat is free", x.hire(0, 1, -8100, 1), 0);
        Due.is("no seat is free", x.hire(0, 1, -8099, 0), NONE);
        Due.is("no seat is free", x.hire(1, 1, 8101, 0), NONE);
        SilentCourt y = court(2, MUTES);
        Due.is("two seats, six mutes", y.hire(0, 1, 1100, 1), 48);
        Due.is("no third seat", y.hire(0, 1, 1101, 1), NONE);
    }

    private static void odds() {
        Due.by("Promise 15", "ODDS of this MINUTE: the judge has more (what 0), less (1), as much (2), in millionths (floor).");
        SilentCourt x = court(9, people(8, 0, "nobody", "30 for judge"));
        Due.is("the last of the people is silent", x.odds(0), 700000);
        Due.is("the last of the people coughs", x.odds(1), 300000);
        SilentCourt y = court(9, people(8, 50, "judge", "50 for judge") + "weigh 1;cough 0;");
        // one half to the 8: all cough
        Due.is("all eight cough", y.odds(2), 3906);
        Due.is("else more", y.odds(0), 996093);
        // one hundredth to the 8: all but a part of 10 to the 16 is still no whole million of millionths
        SilentCourt rare = court(9, people(8, 1, "judge", "1 for judge") + "weigh 1;cough 0;");
        Due.is("all eight cough, hardly ever", rare.odds(2), 0);
        Due.is("else more, not quite always", rare.odds(0), 999999);
        Due.is("never less", rare.odds(1), 0);
        SilentCourt often = court(9, people(8, 99, "judge", "99 for judge") + "weigh 1;cough 0;");
        Due.is("hardly ever all are silent", often.fell(8, 0), 1);
        SilentCourt all = court(9, people(8, 100, "judge", "100 for judge"));
        Due.is("all itch by a hundred", all.odds(1), 1000000);
        Due.is("none is silent", all.odds(0) + all.odds(2), 0);
        SilentCourt mutes = nineSit("weigh max(0,keeps-5);");
        Due.is("the last mute alone weighs", mutes.odds(1), 1000000);
    }

    private static void fellAndAsked() {
        Due.by("Promise 19", "FELL by so much: how many sets (what 0),");
        SilentCourt x = court(9, people(8, 50, "nobody", "1 for judge") + "weigh 3;cough 4;");
        Due.is("without the last of the people", x.fell(3, 0), 128);
        Due.is("without the last of the people", x.fell(3, 2), 127);
        Due.is("with him", x.fell(-4, 0), 128);
        Due.is("he in all", x.fell(-4, 1), 128);
        Due.is("each in some", x.fell(-4, 2), 255);
        Due.is("the last mute is silent", nineSit("").fell(9, 0), 1);
        Due.by("Promise 20", "WAS ASKED, by so much, by some who cough (bits of PEOPLE): POINTS as bits;");
        SilentCourt y = court(9, people(8, 0, "nobody", "0 for judge") + "point a judge 1 rogue 0;point b judge 2 rogue 0;"
                + "point c judge 1 rogue 0;point d judge 3 rogue 0;weigh asked;cough asked*2;");
        Due.is("the last of the people is silent", y.asked(1, 127), 5);
        Due.is("the last of the people coughs", y.asked(-6, 128), 8);
        Due.is("all cough", y.asked(-4, 255), 2);
    }

    private static void loudest() {
        Due.by("Promise 21", "LOUDEST, n MINUTES (1 .. 200): the NOISE, by numbers.");
        StringBuilder noises = new StringBuilder();
        for (int k = 0; k < 6; k++) {
            noises.append("noise at 9").append(4 + k).append(" seat 8 loud ").append(4 + k).append(";");
        }
        SilentCourt x = nineSit(noises + "weigh 99-noise;");
        // the judge's five sit in SEATS 3 to 7, the rogue's one in SEAT 8: loud 4 tells 3 + 2 + 1 - 4, loud 9 tells 8 + 7 + 6 + 5 + 4 - 9
        Due.is("the first of them", x.loudest(95), 0);
        Due.is("the last of them", x.loudest(100), 5);
        Due.is("the last of them but one", x.loudest(99), 4);
    }

    private static void coughs() {
        Due.by("Term II", "KEPT is each who coughs: MINUTE, who, his COUGH: the last 40 are told.");
        SilentCourt x = court(9, people(8, 100, "judge", "100 for rogue") + "cough seat+minute;");
        Due.is("all eight", x.minutes(1), 8);
        Due.is("all eight", x.has(9), 8);
        for (int k = 0; k < 8; k++) {
            Due.is("by numbers", x.kept(k, 1), k);
            Due.is("each his own", x.kept(k, 2), k);
        }
        Due.is("seven against one", x.scale(), -21 + 7);
        Due.is("five minutes are forty", x.minutes(4), 32);
        Due.is("forty", x.has(9), 40);
        Due.is("the oldest", x.kept(0, 0) + x.kept(0, 1), 0);
        Due.is("eight more", x.minutes(1), 8);
        Due.is("forty", x.has(9), 40);
        Due.is("the oldest", x.kept(0, 0) * 10 + x.kept(0, 1), 10);
        Due.is("the latest", x.kept(39, 0) * 100 + x.kept(39, 1) * 10 + x.kept(39, 2) - 12, 570);
        Due.is("as many as there can be at once", x.minutes(100), 800);
        Due.is("the oldest", x.kept(0, 0), 101);
    }

    private static void undo() {
        Due.by("Promise 27", "The latest ACT is undone (the seed stays): true;");
        SilentCourt x = court(9, MUTES);
        x.take(5, 1, 8);
        x.move(15, 3);
        x.undo();
        Due.is("the last mute is back", x.sits(15, 0), 8);
        Due.is("in the last seat", x.seat(8), 15);
        Due.is("the other one is free", x.seat(3), NONE);
        x.dismiss(5);
        Due.is("the last seat is free", x.seat(8), NONE);
        x.undo();
        Due.is("the last mute is back", x.seat(8), 15);
        Due.is("for his party", x.sits(15, 1), 1);
        x.undo();
        Due.is("he was never hired", x.sits(15, 0), NONE);
        Due.is("the last seat is free", x.seat(8), NONE);
        Due.is("for another one", x.take(4, 0, 8), true);
    }

    private static void questions() {
        Due.by("Term IV", "1 if he sits beside the one of that number, else 0, 0 of ones who do not sit.");
        SilentCourt x = nineSit("");
        Due.is("beside the last mute", Due.ask(x, "first beside 15=1"), 14);
        Due.is("the last mute alone beside him", Due.ask(x, "total beside 14*number"), 13 + 15);
        Due.is("by numbers from 0 on", Due.ask(x, "total number"), 3 + 75);
        Due.is("the greatest number", Due.ask(x, "most number"), 15);
        Due.is("all nine", Due.ask(x, "often all"), 9);
        Due.by("Term I", "min ( SUM , SUM ) ; max ( SUM , SUM ) .");
        String[] sums = {"min(3,7)", "min(7,3)", "min(0-3,0-7)", "min(5,5)", "max(3,7)", "max(7,3)", "max(0-3,0-7)", "max(5,5)"};
        int[] due = {3, 3, -7, 5, 7, 7, -3, 5};
        for (int k = 0; k < sums.length; k++) {
            Due.is(sums[k], Due.ask(x, "most " + sums[k]), due[k]);
        }
    }

    private static void images() {
        Due.by("Promise 32", "SEATS that there are, none taken by two,");
        SilentCourt x = court(9, people(3, 0, "nobody", "0 for nobody") + MUTES);
        int[] all = Due.sealed(0, 0, 1, 134, 160, 0, 8, 7, 6, 6, 0, 5, 1, 4, 0, 3, 1, 2, 0, 1, 1);
        Due.is("all nine seats", Due.on(x, all), true);
        int[] who = {15, 14, 13, 12, 11, 10, 2, 1, 0};
        for (int seat = 0; seat < 9; seat++) {
            Due.is("seat " + seat, x.seat(seat), who[seat]);
        }
        Due.is("the last mute's party", x.sits(15, 1), 1);
        Due.is("it is written so", x.image(), all.length);
        for (int k = 0; k < all.length; k++) {
            Due.is("octet " + k, x.octet(k), all[k]);
        }
        int[] twice = Due.sealed(0, 0, 1, 134, 160, 0, 8, 7, 6, 6, 0, 5, 1, 4, 0, 3, 1, 2, 0, 2, 1);
        Due.is("the last two mutes in one", Due.on(x, twice), false);
        int[] first = Due.sealed(0, 0, 1, 134, 160, 0, 8, 7, 6, 6, 0, 5, 1, 4, 0, 3, 1, 2, 0, 9, 1);
        Due.is("the last mute and the first of the people in one", Due.on(x, first), false);
        Due.is("all stays", x.seat(0), 15);
    }
}
