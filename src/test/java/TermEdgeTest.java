/** Terms II to IV: each of their sentences that names a boundary case, with a test of its own. */
public final class TermEdgeTest {
    private static final int NONE = SilentCourt.NONE;
    private static final long NOTHING = SilentCourt.NOTHING;
    private static final int[] GREATEST_SCALE = {3, 13, 63};
    private static final int[] LEAST_SCALE = {0, 0, 1};
    private static final int[] MIDDLE_SCALE = {1, 134, 160};

    private TermEdgeTest() {
    }

    public static void main(String[] args) {
        atFirst();
        whoSits();
        noise();
        worths();
        minuteAlone();
        scaleCut();
        draws();
        lastMinute();
        kept();
        acts();
        mean();
        odds();
        hiredSeats();
        hiredFewest();
        change();
        turns();
        fellAndAsked();
        loudest();
        questions();
        tests();
        beside();
        questionFaults();
        questionsTooDeep();
        imageHead();
        imageRest();
        Due.named("Term II", "Term III", "Term IV");
        Due.end();
    }

    private static String person(String name, int keeps, int itches, String party, int seat) {
        return "person " + name + " keeps " + keeps + " itches " + itches + " for " + party + " at " + seat + ";";
    }

    /** The hall as an image tells it: the MINUTE, the SCALE, what is asked, seats and all that follow. */
    private static void put(SilentCourt court, int minute, int[] scale, int... rest) {
        int[] ahead = new int[5 + rest.length];
        ahead[0] = minute / 256;
        ahead[1] = minute % 256;
        System.arraycopy(scale, 0, ahead, 2, 3);
        System.arraycopy(rest, 0, ahead, 5, rest.length);
        Due.is("the image is taken", Due.on(court, Due.sealed(ahead)), true);
    }

    private static SilentCourt after(int minutes, String text) {
        SilentCourt court = Due.court(text);
        court.minutes(minutes);
        return court;
    }

    // ---- II

    private static void atFirst() {
        Due.by("Term II", "It is MINUTE 0 at first, the SCALE is 0, nothing is asked, no MUTE is hired.");
        String text = "hall 2;" + person("a", 7, 0, "judge", 0) + "mute m keeps 1 costs 1;point p judge 1 rogue 1;";
        SilentCourt x = Due.court(text);
        x.take(0, 0, 1);
        x.point(0);
        x.minutes(3);
        Due.is("another hall", Due.hall(x, text), 4);
        Due.is("minute", x.has(6), 0);
        Due.is("scale", x.scale(), 0);
        Due.is("asked", x.has(7), NONE);
        Due.is("hired", x.has(5) + x.mute(0, 2), 0);
        Due.is("his seat is free", x.seat(1), NONE);
    }

    private static void whoSits() {
        Due.by("Term II", "WHO SITS is PEOPLE, by numbers, then MUTES that are hired, by numbers (MUTE k is number 10 and k).");
        StringBuilder text = new StringBuilder("hall 9;");
        for (char name = 'm'; name < 's'; name++) {
            text.append("mute ").append(name).append(" keeps 1 costs 0;");
        }
        SilentCourt x = Due.court(text + person("a", 1, 0, "judge", 4) + person("b", 1, 0, "rogue", 2));
        Due.is("none is hired", Due.ask(x, "last all"), 1);
        x.take(5, 0, 0);
        x.take(0, 1, 1);
        Due.is("the last mute", x.seat(0), 15);
        Due.is("the first mute", x.seat(1), 10);
        Due.is("of mutes", x.sits(15, 0) * 10 + x.sits(10, 0), 1);
        Due.is("one not hired", x.sits(14, 0), NONE);
        Due.is("the first who sits", Due.ask(x, "first all"), 0);
        Due.is("the last who sits", Due.ask(x, "last all"), 15);
        Due.is("all who sit", Due.ask(x, "total number*100+1"), 2604);
        x.dismiss(5);
        Due.is("the last who sits now", Due.ask(x, "last all"), 10);
        SilentCourt y = Due.court("hall 3;" + person("a", 3, 0, "judge", 0) + "mute m keeps 9 costs 0;point p judge 0 rogue 0;");
        for (int party = 0; party < 2; party++) {
            y.take(0, party, 1);
            Due.is("who is hired counts", y.fell(party == 0 ? 12 : -6, 0), 1);
            y.dismiss(0);
            Due.is("who is dismissed does not: fell", y.fell(3, 0), 1);
            Due.is("who is dismissed does not: asked", y.asked(3, 0), 1);
            Due.is("who is dismissed does not: odds", y.odds(0), 1000000);
            Due.is("who is dismissed does not: mean", y.mean(1), 300);
            y.minutes(1);
            Due.is("who is dismissed does not: minutes", y.scale(), 3);
            y.undo();
        }
        y.take(0, 0, 1);
        y.minutes(1);
        y.undo();
        y.undo();
        Due.is("nor one who was never hired", y.fell(3, 0), 1);
    }

    private static void noise() {
        Due.by("Term II", "NOISE at a SEAT: of all NOISES of the MINUTE, what loud is above how many SEATS it is off, together.");
        SilentCourt x = Due.court("hall 9;noise at 5 seat 0 loud 9;noise at 5 seat 8 loud 1;noise at 5 seat 8 loud 2;"
                + "noise at 6 seat 4 loud 3;");
        int[] five = {9, 8, 7, 6, 5, 4, 3, 3, 4};
        int[] six = {0, 0, 1, 2, 3, 2, 1, 0, 0};
        for (int seat = 0; seat < 9; seat++) {
            Due.is("five, seat " + seat, x.noise(seat, 5), five[seat]);
            Due.is("six, seat " + seat, x.noise(seat, 6), six[seat]);
            Due.is("four, seat " + seat, x.noise(seat, 4), 0);
            Due.is("seven, seat " + seat, x.noise(seat, 7), 0);
        }
        SilentCourt y = Due.court("hall 9;" + "noise at 0 seat 8 loud 9;".repeat(6));
        Due.is("six together", y.noise(8, 0), 54);
        Due.is("six together, far off", y.noise(0, 0), 6);
        Due.is("six, another minute", y.noise(8, 1), 0);
        SilentCourt z = Due.court("hall 2;" + person("a", 99, 0, "judge", 0) + "noise at 1 seat 0 loud 9;".repeat(6) + "weigh keeps-noise;");
        Due.is("six, on the mean", z.mean(3), 9900 + 4500 + 9900);
        Due.is("of six alike ones the first", z.loudest(3), 0);
    }

    private static void worths() {
        String a = "hall 2;" + person("a", 99, 0, "judge", 0);
        Due.by("Term II", "WEIGHT of who sits: the SUM of weigh, 0 .. 999 (below is 0, above 999; what he keeps without);");
        String[] sums = {"0-1", "0", "1", "998", "999", "1000", "9999*9999", "(0-9999)*9999"};
        int[] due = {0, 0, 1, 998, 999, 999, 999, 0};
        for (int k = 0; k < sums.length; k++) {
            Due.is(sums[k], Due.court(a + "weigh " + sums[k] + ";").sits(0, 6), due[k]);
            Due.is("moves the scale", after(1, a + "weigh " + sums[k] + ";").scale(), due[k]);
        }
        Due.is("without", Due.court(a + "cough 3;").sits(0, 6), 99);
        Due.by("Term II", "COUGH the SUM of cough, 0 .. 999 (5 without).");
        for (int k = 0; k < sums.length; k++) {
            Due.is(sums[k], Due.court(a + "cough " + sums[k] + ";").sits(0, 7), due[k]);
            Due.is("moves the scale", after(1, a.replace("itches 0", "itches 100") + "cough " + sums[k] + ";").scale(), -due[k]);
        }
        Due.is("without", Due.court(a + "weigh 3;").sits(0, 7), 5);
    }

    private static void minuteAlone() {
        Due.by("Term II", "silent his PARTY has his WEIGHT more, coughing his COUGH less (nobody: nothing).");
        String[] parties = {"judge", "rogue", "nobody"};
        int[] side = {1, -1, 0};
        for (int party = 0; party < 3; party++) {
            Due.is(parties[party] + " silent", after(1, "hall 2;" + person("a", 9, 0, parties[party], 1)).scale(), 9 * side[party]);
            SilentCourt x = after(1, "hall 2;" + person("a", 9, 100, parties[party], 1));
            Due.is(parties[party] + " coughs", x.scale(), -5 * side[party]);
            Due.is(parties[party] + " is kept", x.kept(0, 2), 5);
        }
        SilentCourt y = Due.court("hall 2;mute m keeps 9 costs 0;mute n keeps 4 costs 0;");
        Due.is("nobody sits", y.minutes(1) + y.scale(), 0);
        y.take(0, 1, 0);
        y.take(1, 0, 1);
        Due.is("mutes never cough", y.minutes(100), 0);
        Due.is("mutes", y.scale(), -500);
    }

    private static void scaleCut() {
        Due.by("Term II", "The SCALE is what the judge's PARTY has more than the rogue's (99999 at most, -99999 at least).");
        SilentCourt x = Due.court("hall 2;" + person("a", 1, 0, "judge", 0) + "mute m keeps 99 costs 0;");
        put(x, 0, new int[] {3, 13, 62}, 0, 0, 0, 0);
        x.minutes(1);
        Due.is("up to the most", x.scale(), 99999);
        x.minutes(1);
        Due.is("no more", x.scale(), 99999);
        x.take(0, 1, 1);
        x.minutes(1);
        Due.is("back from there", x.scale(), 99901);
        SilentCourt y = Due.court("hall 2;" + person("a", 1, 0, "rogue", 0) + "mute m keeps 99 costs 0;");
        put(y, 0, new int[] {0, 0, 2}, 0, 0, 0, 0);
        y.minutes(1);
        Due.is("down to the least", y.scale(), -99999);
        y.minutes(1);
        Due.is("no less", y.scale(), -99999);
        y.take(0, 0, 1);
        y.minutes(1);
        Due.is("back from there", y.scale(), -99901);
        // 50 more in MINUTE 0, 20 less in MINUTE 1: within one ACT, too, it is cut MINUTE by MINUTE
        SilentCourt z = Due.court("hall 2;" + person("a", 1, 0, "judge", 0) + person("b", 1, 0, "rogue", 1)
                + "weigh max(0,50-minute*50)*(1-seat)+min(minute,1)*20*seat;");
        put(z, 0, new int[] {3, 13, 54}, 0, 0, 1);
        z.minutes(2);
        Due.is("each MINUTE", z.scale(), 99979);
    }

    /** By the seed 1 the draws of 100 are 18, 99, 26, 80, 16. */
    private static void draws() {
        Due.by("Term II", "for each who itches above 0, as they sit by numbers, a DRAW of 100: below itches he coughs.");
        Due.is("18 is not below 18", Due.court("hall 2;" + person("a", 1, 18, "judge", 0)).minutes(1), 0);
        Due.is("18 is below 19", Due.court("hall 2;" + person("a", 1, 19, "judge", 0)).minutes(1), 1);
        SilentCourt zero = Due.court("hall 2;" + person("a", 1, 0, "judge", 0) + person("b", 1, 19, "judge", 1));
        Due.is("who itches by 0 draws none", zero.minutes(1), 1);
        Due.is("who itches by 0 draws none", zero.kept(0, 1), 1);
        SilentCourt order = Due.court("hall 2;" + person("a", 1, 19, "judge", 1) + person("b", 1, 19, "judge", 0));
        Due.is("by numbers, not by seats", order.minutes(1), 1);
        Due.is("by numbers, not by seats", order.kept(0, 1), 0);
        SilentCourt nobody = Due.court("hall 2;" + person("a", 1, 1, "nobody", 0) + person("b", 1, 99, "judge", 1));
        Due.is("who sits for nobody draws, too", nobody.minutes(1), 0);
        SilentCourt mute = Due.court("hall 2;" + person("a", 1, 17, "judge", 1) + "mute m keeps 1 costs 0;");
        mute.take(0, 0, 0);
        Due.is("mutes draw none", mute.minutes(5), 1);
        Due.is("mutes draw none", mute.kept(0, 0), 4);
        for (int itches = 99; itches <= 100; itches++) {
            SilentCourt most = Due.court("hall 2;" + person("a", 1, itches, "judge", 0));
            most.seed(Integer.MAX_VALUE);
            Due.is("a draw of 99, itches " + itches, most.minutes(1), itches - 99);
        }
        Due.by("Term II", "A DRAW of m: x (the seed) becomes (1103515245 x + 12345) mod 2 to the 31; floor(x / 64) mod m.");
        // by the greatest seed 99, 12, 16, 60; by the seed 0 92, 21, 71, 20
        SilentCourt wrapped = Due.court("hall 2;" + person("a", 1, 13, "judge", 0));
        wrapped.seed(Integer.MAX_VALUE);
        Due.is("the greatest seed", wrapped.minutes(4), 1);
        Due.is("the greatest seed", wrapped.kept(0, 0), 1);
        SilentCourt least = Due.court("hall 2;" + person("a", 1, 21, "judge", 0));
        least.seed(0);
        Due.is("the least seed", least.minutes(4), 1);
        Due.is("the least seed", least.kept(0, 0), 3);
    }

    private static void lastMinute() {
        Due.by("Term II", "Then the MINUTE is one more (999 at most).");
        SilentCourt x = Due.court("hall 2;" + person("a", 1, 0, "judge", 0) + "weigh minute;");
        x.minutes(1);
        Due.is("one more", x.has(6), 1);
        Due.is("the weight was that of MINUTE 0", x.scale(), 0);
        put(x, 998, MIDDLE_SCALE, 0, 0);
        x.minutes(1);
        Due.is("the last", x.has(6), 999);
        Due.is("of MINUTE 998", x.scale(), 998);
        Due.is("no more", x.minutes(1), NONE);
        Due.is("no more", x.has(6), 999);
    }

    private static void kept() {
        Due.by("Term II", "KEPT is each who coughs: MINUTE, who, his COUGH: the last 40 are told.");
        SilentCourt x = Due.court("hall 2;" + person("a", 1, 0, "judge", 0) + person("b", 1, 100, "nobody", 1) + "cough minute+3;");
        x.minutes(39);
        Due.is("39", x.has(9), 39);
        x.minutes(1);
        Due.is("40", x.has(9), 40);
        Due.is("the oldest", x.kept(0, 0), 0);
        x.minutes(1);
        Due.is("the last 40", x.has(9), 40);
        for (int k = 0; k < 40; k++) {
            Due.is("minute of " + k, x.kept(k, 0), k + 1);
            Due.is("who of " + k, x.kept(k, 1), 1);
            Due.is("cough of " + k, x.kept(k, 2), k + 4);
        }
        Due.is("no 41st", x.kept(40, 0), NONE);
        put(x, 999, MIDDLE_SCALE, 0, 0, 1);
        Due.is("none at first", x.has(9), 0);
        SilentCourt y = Due.court("hall 2;" + person("a", 1, 100, "judge", 1) + "cough 999;");
        put(y, 998, MIDDLE_SCALE, 0, 1);
        y.minutes(1);
        Due.is("the last minute", y.kept(0, 0), 998);
        Due.is("the greatest cough", y.kept(0, 2), 999);
        put(y, 500, MIDDLE_SCALE, 0, 1);
        y.minutes(1);
        Due.is("who, in a later minute", y.kept(0, 1), 0);
        Due.is("a later minute", y.kept(0, 0), 500);
        SilentCourt z = Due.court("hall 9;" + person("a", 1, 0, "judge", 1) + person("b", 1, 0, "judge", 2)
                + person("c", 1, 0, "judge", 3) + person("d", 1, 0, "judge", 4) + person("e", 1, 0, "judge", 5)
                + person("f", 1, 0, "judge", 6) + person("g", 1, 0, "judge", 7) + person("h", 1, 100, "judge", 8) + "cough 999;");
        put(z, 998, MIDDLE_SCALE, 0, 1, 2, 3, 4, 5, 6, 7, 8);
        z.minutes(1);
        Due.is("the last one", z.kept(0, 1), 7);
        Due.is("in the last minute", z.kept(0, 0), 998);
    }

    private static void acts() {
        String text = "hall 4;" + person("a", 1, 0, "judge", 0) + person("b", 1, 0, "judge", 3)
                + "mute m keeps 1 costs 0;mute n keeps 2 costs 0;point p judge 0 rogue 0;";
        SilentCourt x = Due.court(text);
        Due.by("Term II", "one who sits changes to another SEAT (who sits there comes to his);");
        Due.is("to the last seat", x.move(0, 3), true);
        Due.is("he is there", x.seat(3), 0);
        Due.is("the other one came to his", x.seat(0), 1);
        Due.is("to an empty one", x.move(0, 1), true);
        Due.is("his own is empty", x.seat(3), NONE);
        Due.by("Term II", "a MUTE is hired for a PARTY, in a SEAT in which nobody sits, or dismissed.");
        Due.is("where one sits", x.take(0, 0, 1), false);
        Due.is("where nobody sits", x.take(0, 1, 3), true);
        Due.is("where a mute sits", x.take(1, 0, 3), false);
        Due.is("dismissed", x.dismiss(0), true);
        Due.is("where a mute sat", x.take(1, 0, 3), true);
        x.move(11, 0);
        x.move(1, 2);
        Due.is("dismissed from the first seat", x.dismiss(1), true);
        Due.is("it is free", x.seat(0), NONE);
        Due.is("for another one", x.take(0, 0, 0), true);
        Due.by("Term II", "The last 20 can be undone.");
        SilentCourt y = Due.court(text);
        for (int k = 0; k < 5; k++) {
            y.minutes(k + 1);
            y.point(k % 2 == 0 ? 0 : NONE);
            y.take(0, 0, 1);
            y.move(0, 2);
        }
        // taken once, moved once: those refused are no ACTS
        Due.is("those that were none", y.has(10), 12);
        while (y.has(10) < 20) {
            y.minutes(1);
        }
        y.move(0, 0);
        Due.is("20 of 21", y.has(10), 20);
        for (int k = 0; k < 20; k++) {
            Due.is("undone", y.undo(), true);
        }
        Due.is("no more", y.undo(), false);
        Due.is("the first one stays", y.has(6), 1);
        Due.is("all else is undone", y.has(5) + y.seat(0), 0);
    }

    // ---- III

    private static void mean() {
        SilentCourt x = Due.court("hall 2;" + person("a", 1, 33, "judge", 0));
        Due.by("Term III", "what the SCALE is behind them on the mean, in hundredths");
        Due.is("67 - 33 * 5", x.mean(1), -98);
        Due.is("none", x.mean(0), 0);
        Due.by("Term III", "MEAN of n MINUTES from now on (as many as there are up to MINUTE 999):");
        put(x, 989, MIDDLE_SCALE, 0, 0);
        Due.is("all there are", x.mean(10), -980);
        Due.is("one more", x.mean(11), NOTHING);
        put(x, 999, new int[] {1, 134, 167}, 0, 0);
        Due.is("none is left", x.mean(0), 700);
        Due.is("none is left", x.mean(1), NOTHING);
        hiredLate();
        SilentCourt noisy = Due.court("hall 2;" + person("a", 50, 0, "judge", 0)
                + "noise at 1 seat 0 loud 1;noise at 2 seat 0 loud 3;noise at 5 seat 0 loud 9;weigh keeps-noise;");
        int[] means = {0, 5000, 9900, 14600, 19600, 24600, 28700, 33700};
        for (int n = 0; n < means.length; n++) {
            Due.is("each of its own NOISE, " + n, noisy.mean(n), means[n]);
        }
        String[] sums = {"weigh minute;cough 0;", "cough 0;weigh minute;", "weigh minute;cough minute;"};
        for (String sum : sums) {
            SilentCourt own = Due.court("hall 2;" + person("a", 1, 0, "judge", 0) + sum);
            Due.is("each its own WEIGHT, " + sum, own.mean(4), 600);
            own.minutes(4);
            Due.is("each its own WEIGHT, " + sum, own.scale(), 6);
        }
        for (String sum : new String[] {"weigh 0;cough minute;", "cough minute;weigh 0;"}) {
            SilentCourt own = Due.court("hall 2;" + person("a", 1, 100, "judge", 0) + sum);
            Due.is("each its own COUGH, " + sum, own.mean(4), -600);
            own.minutes(4);
            Due.is("each its own COUGH, " + sum, own.scale(), -6);
        }
        Due.by("Term III", "(nothing cut, no other ACTS)");
        SilentCourt y = Due.court("hall 2;" + person("a", 99, 0, "judge", 0));
        put(y, 0, GREATEST_SCALE, 0, 0);
        Due.is("above", y.mean(200), 9999900 + 200 * 9900);
        SilentCourt z = Due.court("hall 2;" + person("a", 99, 0, "rogue", 0));
        put(z, 0, LEAST_SCALE, 0, 0);
        Due.is("below", z.mean(200), -9999900 - 200 * 9900);
        Due.is("the scale stays", z.scale(), -99999);
        Due.is("no act", z.has(6) + z.has(10), 0);
    }

    /** Where there are not n MINUTES there is no such MEAN, and so none HIRED. */
    private static void hiredLate() {
        SilentCourt x = Due.court("hall 2;" + person("a", 1, 0, "judge", 0) + "mute m keeps 2 costs 7;");
        put(x, 990, new int[] {1, 134, 167}, 0, 0, 0, 0);
        Due.is("nine are left", x.hire(0, 9, 700 + 900, 0), 0);
        Due.is("nine are left, a hundredth more", x.hire(0, 9, 700 + 901, 0), 1);
        Due.is("nine are left with the mute", x.hire(0, 9, 700 + 2700, 2), 7);
        Due.is("no more with the mute", x.hire(0, 9, 700 + 2701, 0), NONE);
        Due.is("the rogue's", x.hire(1, 9, -1600, 0), 0);
        Due.is("the rogue's, a hundredth more", x.hire(1, 9, -1599, 1), 1);
        Due.is("the rogue's with the mute", x.hire(1, 9, 200, 0), 1);
        Due.is("no more for the rogue", x.hire(1, 9, 201, 0), NONE);
        Due.is("no tenth one", x.hire(0, 10, 0, 0), NONE);
        Due.is("no tenth one for the rogue", x.hire(1, 10, -9999, 0), NONE);
        put(x, 999, new int[] {1, 134, 167}, 0, 0, 0, 0);
        Due.is("none is left", x.hire(0, 1, 700, 0), NONE);
        Due.is("none is left for the rogue", x.hire(1, 50, -700, 0), NONE);
        Due.is("the rest stays as it is", x.has(6) * 10 + x.has(5) + x.has(10), 9990);
    }

    private static void odds() {
        Due.by("Term III", "ODDS of a MINUTE: how likely the judge has more by it (of the MINUTE alone), less, as much.");
        SilentCourt x = Due.court("hall 2;" + person("a", 9, 30, "judge", 0) + person("b", 9, 0, "rogue", 1));
        for (int[] scale : new int[][] {GREATEST_SCALE, MIDDLE_SCALE, LEAST_SCALE}) {
            put(x, 999, scale, 0, 0, 1);
            Due.is("more", x.odds(0), 0);
            Due.is("less", x.odds(1), 300000);
            Due.is("as much", x.odds(2), 700000);
        }
        SilentCourt y = Due.court("hall 2;" + person("a", 10, 30, "judge", 0) + person("b", 9, 0, "rogue", 1));
        Due.is("by one more", y.odds(0), 700000);
        SilentCourt z = Due.court("hall 2;" + person("a", 8, 30, "judge", 0) + person("b", 9, 0, "rogue", 1));
        Due.is("by one less", z.odds(1), 1000000);
        SilentCourt w = Due.court("hall 2;" + person("a", 9, 100, "judge", 0));
        Due.is("who itches by 100 coughs", w.odds(1), 1000000);
        Due.is("who itches by 100 is not silent", w.odds(0), 0);
    }

    private static void hiredSeats() {
        Due.by("Term III", "HIRED are some MUTES for a PARTY: by numbers, each in the first SEAT in which nobody sits:");
        SilentCourt x = Due.court("hall 3;" + person("a", 1, 0, "nobody", 1)
                + "mute m keeps 5 costs 0;mute n keeps 7 costs 0;mute o keeps 9 costs 0;weigh keeps*seat;");
        // m in SEAT 0, n in SEAT 2; one alone always in SEAT 0
        Due.is("n and o", x.hire(0, 1, 1800, 1), 5);
        Due.is("m and n", x.hire(0, 1, 1400, 2) + x.hire(0, 1, 1400, 1), 3);
        Due.is("no third seat", x.hire(0, 1, 1801, 0), NONE);
        x.take(2, 1, 0);
        Due.is("one in the last seat", x.hire(0, 1, 1000, 1), 1);
        x.take(1, 1, 2);
        Due.is("no seat is left", x.hire(1, 1, 1401, 1), NONE);
        Due.is("none is needed", x.hire(1, 1, 1400, 1), 0);
        Due.by("Term III", "so that the MEAN of n MINUTES is at least so much for that PARTY (the rogue's the other way round):");
        SilentCourt y = Due.court("hall 3;" + person("a", 3, 0, "judge", 0) + "mute m keeps 5 costs 0;mute n keeps 2 costs 0;");
        Due.is("as much as it is", y.hire(0, 50, 15000, 0), 0);
        Due.is("a hundredth more", y.hire(0, 50, 15001, 0), 1);
        Due.is("as much as it can be", y.hire(0, 50, 50000, 0), 2);
        Due.is("a hundredth more", y.hire(0, 50, 50001, 0), NONE);
        Due.is("the rogue's as it is", y.hire(1, 50, -15000, 0), 0);
        Due.is("the rogue's, a hundredth more", y.hire(1, 50, -14999, 0), 1);
        Due.is("the rogue's as it can be", y.hire(1, 50, 20000, 0), 2);
        Due.is("the rogue's, a hundredth more", y.hire(1, 50, 20001, 0), NONE);
        Due.is("the least that can be", y.hire(0, 1, Integer.MIN_VALUE, 1), 0);
        Due.is("the most that can be", y.hire(1, 1, Integer.MAX_VALUE, 1), NONE);
        // the SCALE counts, too
        put(y, 949, GREATEST_SCALE, 0, 0, 0, 0, 0, 0);
        Due.is("with the scale", y.hire(0, 50, 9999900 + 15000, 0), 0);
        Due.is("with the scale", y.hire(0, 50, 9999900 + 15001, 0), 1);
    }

    private static void hiredFewest() {
        Due.by("Term III", "the fewest MUTES (not hired yet),");
        SilentCourt x = Due.court("hall 9;mute m keeps 5 costs 0;mute n keeps 5 costs 0;mute o keeps 10 costs 99;");
        Due.is("one dear one, not two cheap ones", x.hire(0, 1, 1000, 1), 4);
        Due.is("what he costs", x.hire(0, 1, 1000, 2), 99);
        Due.is("one", x.hire(0, 1, 1000, 0), 1);
        SilentCourt dear = Due.court("hall 9;mute o keeps 10 costs 99;mute m keeps 5 costs 0;mute n keeps 5 costs 0;");
        Due.is("one dear one who is the first, not two cheap ones", dear.hire(0, 1, 1000, 1), 1);
        x.take(2, 0, 0);
        Due.is("he is hired", x.hire(0, 1, 1000, 1), 0);
        Due.is("the other ones", x.hire(0, 1, 2000, 1), 3);
        Due.is("not those who are hired", x.hire(0, 1, 2001, 1), NONE);
        SilentCourt stays = Due.court("hall 3;mute m keeps 5 costs 0;mute n keeps 50 costs 0;weigh keeps*seat;");
        stays.take(1, 0, 0);
        Due.is("who is hired stays where he is", stays.hire(0, 1, 501, 0), NONE);
        Due.is("the other one comes", stays.hire(0, 1, 500, 1), 1);
        Due.by("Term III", "of like ones the least costs together,");
        SilentCourt y = Due.court("hall 9;mute m keeps 5 costs 3;mute n keeps 5 costs 2;mute o keeps 5 costs 99;mute p keeps 5 costs 1;");
        Due.is("one", y.hire(0, 1, 500, 1), 8);
        Due.is("two", y.hire(0, 1, 1000, 1), 10);
        Due.is("three", y.hire(0, 1, 1500, 1), 11);
        Due.is("what three cost", y.hire(0, 1, 1500, 2), 6);
        Due.by("Term III", "then the least bits.");
        SilentCourt z = Due.court("hall 9;mute m keeps 5 costs 3;mute n keeps 5 costs 2;mute o keeps 5 costs 2;mute p keeps 5 costs 3;"
                + "mute q keeps 5 costs 2;");
        Due.is("one", z.hire(1, 1, 500, 1), 2);
        Due.is("two", z.hire(1, 1, 1000, 1), 6);
        Due.is("four", z.hire(1, 1, 2000, 1), 23);
    }

    private static void change() {
        Due.by("Term III", "the two of who sits who change SEATS so that what this MINUTE (the 999th, too) moves the SCALE by on the "
                + "mean is best for it,");
        SilentCourt x = Due.court("hall 4;" + person("a", 5, 0, "judge", 0) + person("b", 5, 0, "judge", 1)
                + person("c", 5, 0, "rogue", 2) + "mute m keeps 5 costs 0;weigh keeps+seat*seat;");
        x.take(0, 1, 3);
        Due.is("the best one", x.change(0, 0), 0);
        Due.is("with the best other one", x.change(0, 1), 10);
        put(x, 999, GREATEST_SCALE, 0, 0, 1, 2, 4, 1);
        Due.is("the 999th, too", x.change(0, 0), 0);
        Due.is("the 999th, too", x.change(0, 1), 10);
        SilentCourt late = Due.court("hall 2;" + person("a", 5, 0, "judge", 0) + person("b", 5, 0, "rogue", 1)
                + "weigh max(0,minute-998)*seat;");
        Due.is("of MINUTE 0", late.change(0, 0), NONE);
        put(late, 998, MIDDLE_SCALE, 0, 0, 1);
        Due.is("of MINUTE 998", late.change(0, 0), NONE);
        put(late, 999, MIDDLE_SCALE, 0, 0, 1);
        Due.is("of MINUTE 999", late.change(0, 1), 1);
        Due.by("Term III", "of like ones the first by numbers (the lesser number first);");
        SilentCourt y = Due.court("hall 4;" + person("a", 5, 0, "rogue", 3) + person("b", 5, 0, "judge", 0)
                + person("c", 5, 0, "judge", 1) + person("d", 5, 0, "nobody", 2) + "weigh keeps+seat/3;");
        // only the last SEAT weighs one more: a with b, a with c are alike, a with d is half of it
        Due.is("the first", y.change(0, 0), 0);
        Due.is("the first", y.change(0, 1), 1);
        y.move(0, 2);
        // now d has the last SEAT: b with d is the first
        Due.is("the lesser number first", y.change(0, 0), 1);
        Due.is("the lesser number first", y.change(0, 1), 3);
        Due.is("the rogue", y.change(1, 0), 0);
        Due.is("the rogue", y.change(1, 1), 3);
        Due.by("Term III", "nobody, if none is better than now.");
        SilentCourt z = Due.court("hall 9;" + person("a", 5, 0, "judge", 0) + person("b", 5, 0, "rogue", 1) + "weigh 7+seat/5;");
        Due.is("all are as good", z.change(0, 0), NONE);
        Due.is("all are as good", z.change(1, 1), NONE);
        z.move(0, 8);
        Due.is("all are worse", z.change(0, 0), NONE);
        Due.is("one is better", z.change(1, 0), 0);
        SilentCourt one = Due.court("hall 2;" + person("a", 5, 0, "judge", 0) + "weigh seat;");
        Due.is("with an empty seat nobody changes", one.change(0, 0), NONE);
    }

    private static void turns() {
        Due.by("Term III", "TURNS: n MINUTES (3 at most): ahead of each one asks a POINT (of all): the judge ahead of the first, the "
                + "rogue ahead of the second, and so on:");
        SilentCourt x = Due.court("hall 2;" + person("a", 1, 0, "judge", 0) + "point p judge 1 rogue 0;point q judge 5 rogue 0;"
                + "point r judge 9 rogue 0;point s judge 0 rogue 0;weigh asked;");
        int[] due = {2, 3, 2};
        for (int n = 1; n <= 3; n++) {
            for (int k = 0; k < n; k++) {
                Due.is("turn " + k + " of " + n, x.points(n, k), due[k]);
            }
        }
        Due.is("three", x.points(3, NONE), 1800);
        Due.is("no four", x.points(4, NONE), NOTHING);
        Due.is("no four", x.points(4, 3), NOTHING);
        x.point(2);
        x.points(2, NONE);
        Due.is("none is asked by it", x.has(7), 2);
        Due.is("no minute is over by it", x.has(6), 0);
        Due.by("Term III", "each so that the MEAN behind them all is best for his PARTY; of like ones the first.");
        SilentCourt y = Due.court("hall 2;" + person("a", 1, 0, "judge", 0) + "point p judge 5 rogue 0;point q judge 9 rogue 8;"
                + "point r judge 9 rogue 0;point s judge 5 rogue 1;weigh asked;");
        Due.is("the judge's first", y.points(1, 0), 1);
        Due.is("the rogue's first", y.points(2, 1), 0);
        Due.is("the judge's first again", y.points(3, 2), 1);
        // MINUTE 0: 9 + asked, MINUTE 1: 9 - asked, MINUTE 2: 9 - 3 asked
        SilentCourt own = Due.court("hall 2;" + person("a", 1, 0, "judge", 0) + "point p judge 1 rogue 0;point q judge 3 rogue 0;"
                + "weigh 9+asked*(1-minute*2);");
        Due.is("each by its own MINUTE", own.points(3, 0), 1);
        Due.is("each by its own MINUTE", own.points(3, 1), 1);
        Due.is("each by its own MINUTE", own.points(3, 2), 0);
        Due.is("each by its own MINUTE", own.points(3, NONE), 1200 + 600 + 600);
        // a POINT tells the more, the louder it is in its MINUTE
        SilentCourt noisy = Due.court("hall 2;" + person("a", 1, 0, "judge", 0) + "point p judge 1 rogue 0;point q judge 5 rogue 0;"
                + "noise at 0 seat 0 loud 4;noise at 2 seat 1 loud 3;weigh asked*noise;");
        Due.is("each by its own NOISE", noisy.points(3, 0), 1);
        Due.is("each by its own NOISE", noisy.points(3, 1), 0);
        Due.is("each by its own NOISE", noisy.points(3, 2), 1);
        Due.is("each by its own NOISE", noisy.points(3, NONE), 2000 + 1000);
        SilentCourt z = Due.court("hall 2;" + person("a", 1, 0, "nobody", 0) + "point p judge 5 rogue 0;point q judge 9 rogue 8;");
        Due.is("all alike", z.points(3, 0) + z.points(3, 1) + z.points(3, 2), 0);
        put(z, 0, GREATEST_SCALE, 0, 0);
        Due.is("with the scale, nothing cut", z.points(1, NONE), 9999900);
    }

    private static void fellAndAsked() {
        Due.by("Term III", "FELL: sets of PEOPLE (who itch above 0) who cough, all others who sit silent, by which this MINUTE moves "
                + "the SCALE by so much.");
        SilentCourt x = Due.court("hall 9;" + person("a", 3, 0, "judge", 0) + person("b", 3, 1, "judge", 1)
                + person("c", 3, 100, "judge", 2) + person("d", 3, 50, "nobody", 3) + "mute m keeps 20 costs 0;");
        Due.is("none coughs, but d may", x.fell(9, 0), 2);
        Due.is("none coughs in all", x.fell(9, 1), 0);
        Due.is("d coughs in some", x.fell(9, 2), 8);
        Due.is("b or c, never a", x.fell(1, 0), 4);
        Due.is("b or c, never a", x.fell(1, 1), 0);
        Due.is("b or c, never a", x.fell(1, 2), 14);
        Due.is("b and c", x.fell(-7, 1), 6);
        Due.is("all three can't", x.fell(-15, 0), 0);
        Due.is("all three can't", x.fell(-15, 1), 0);
        x.take(0, 1, 8);
        Due.is("the mute is silent", x.fell(-11, 0), 2);
        Due.is("the mute can't cough", x.fell(14, 0), 0);
        Due.by("Term III", "WAS ASKED: POINTS (as if asked last) by which some who cough move it so.");
        SilentCourt y = Due.court("hall 2;" + person("a", 3, 50, "judge", 0) + person("b", 1, 50, "rogue", 1)
                + "point p judge 1 rogue 0;point q judge 2 rogue 1;point r judge 1 rogue 9;point s judge 0 rogue 0;weigh keeps+asked;");
        Due.is("two that are alike", y.asked(3, 0), 3);
        Due.is("a coughs", y.asked(-6, 1), 9);
        Due.is("b coughs", y.asked(9, 2), 5);
        Due.is("both cough: all", y.asked(0, 3), 15);
        Due.is("none", y.asked(1, 3), 0);
        y.point(3);
        Due.is("as if asked last", y.asked(3, 0), 3);
        Due.is("what is asked stays", y.has(7), 3);
    }

    private static void loudest() {
        Due.by("Term III", "LOUDEST: the NOISE (of all MINUTES) without which the MEAN of n MINUTES is most otherwise (more or less);");
        SilentCourt x = Due.court("hall 9;" + person("a", 50, 0, "judge", 0) + person("b", 50, 0, "rogue", 8)
                + "noise at 0 seat 0 loud 2;noise at 0 seat 8 loud 3;noise at 1 seat 0 loud 4;noise at 99 seat 8 loud 9;weigh keeps-noise;");
        Due.is("one minute: the mean is more without it", x.loudest(1), 1);
        Due.is("two minutes: the mean is less with it", x.loudest(2), 2);
        Due.is("99 minutes", x.loudest(99), 2);
        Due.is("100 minutes", x.loudest(100), 3);
        put(x, 99, MIDDLE_SCALE, 0, 0, 8);
        Due.is("this minute's", x.loudest(1), 3);
        put(x, 100, MIDDLE_SCALE, 0, 0, 8);
        Due.is("all are over", x.loudest(200), 0);
        SilentCourt first = Due.court("hall 2;" + person("a", 50, 0, "judge", 0)
                + "noise at 1 seat 0 loud 5;noise at 0 seat 0 loud 4;noise at 2 seat 0 loud 4;weigh keeps-noise;");
        Due.is("the first", first.loudest(3), 0);
        Due.is("the second", first.loudest(1), 1);
        SilentCourt least = Due.court("hall 2;" + person("a", 50, 99, "judge", 0)
                + "noise at 0 seat 1 loud 1;noise at 0 seat 0 loud 1;weigh keeps-noise;");
        Due.is("by a hundredth", least.loudest(1), 1);
        Due.by("Term III", "of like ones the first.");
        SilentCourt y = Due.court("hall 9;" + person("a", 50, 0, "judge", 0) + person("b", 50, 0, "rogue", 8)
                + "noise at 3 seat 4 loud 1;noise at 2 seat 8 loud 3;noise at 1 seat 0 loud 3;weigh keeps-noise;");
        Due.is("alike, though the other way round", y.loudest(10), 1);
        Due.is("none matters", y.loudest(1), 0);
    }

    // ---- IV

    private static void questions() {
        String three = "hall 9;" + person("a", 3, 0, "judge", 0) + person("b", 5, 0, "rogue", 1) + person("c", 4, 0, "nobody", 2);
        SilentCourt x = Due.court(three);
        SilentCourt empty = Due.court("hall 9;mute m keeps 1 costs 0;");
        Due.by("Term IV", "first TEST, last TEST (the number of the first, the last one for whom it holds)");
        Due.is("first", Due.ask(x, "first keeps>3"), 1);
        Due.is("last", Due.ask(x, "last keeps>3"), 2);
        Due.is("first of one", Due.ask(x, "first keeps>4"), 1);
        Due.is("last of one", Due.ask(x, "last keeps>4"), 1);
        Due.is("number 0", Due.ask(x, "last keeps<4"), 0);
        Due.by("Term IV", "often TEST (for how many)");
        Due.is("none", Due.ask(x, "often keeps>5"), 0);
        Due.is("all", Due.ask(x, "often all"), 3);
        Due.is("where nobody sits", Due.ask(empty, "often all"), 0);
        Due.by("Term IV", "total SUM (of all together)");
        Due.is("total", Due.ask(x, "total keeps"), 12);
        Due.is("of the greatest", Due.ask(x, "total 9999*9999"), 3000000);
        Due.is("of the least", Due.ask(x, "total 0-9999*9999"), -3000000);
        Due.is("where nobody sits", Due.ask(empty, "total 7"), 0);
        Due.by("Term IV", "most SUM, least SUM (the greatest, the least of all; 0 without)");
        Due.is("most", Due.ask(x, "most keeps"), 5);
        Due.is("least", Due.ask(x, "least keeps"), 3);
        Due.is("most, below 0", Due.ask(x, "most 0-keeps"), -3);
        Due.is("least, below 0", Due.ask(x, "least 0-keeps"), -5);
        Due.is("most, where nobody sits", Due.ask(empty, "most 7"), 0);
        Due.is("least, where nobody sits", Due.ask(empty, "least 7"), 0);
        Due.by("Term IV", "0 for the judge, 1 the rogue, 2 nobody;");
        Due.is("parties", Due.ask(x, "total party*10*number+party"), 53);
    }

    private static void tests() {
        SilentCourt x = Due.court("hall 9;" + person("a", 3, 0, "judge", 0) + person("b", 5, 0, "rogue", 1)
                + person("c", 4, 0, "nobody", 2));
        Due.by("Term IV", "SUM SIGN SUM, SIGN < or > or = .");
        Due.is("below", Due.ask(x, "often keeps<4"), 1);
        Due.is("above", Due.ask(x, "often 4>keeps"), 1);
        Due.is("like", Due.ask(x, "often keeps=4"), 1);
        Due.is("like is not below", Due.ask(x, "often 4<4"), 0);
        Due.is("like is not above", Due.ask(x, "often 4>4"), 0);
        Due.is("with numbers below 0", Due.ask(x, "often 0-1<0"), 3);
        Due.by("Term IV", "TEST: BOTH { or BOTH }. BOTH: FACT { and FACT }.");
        Due.is("and binds first", Due.ask(x, "often all or all and not all"), 3);
        Due.is("and binds first", Due.ask(x, "often not all and all or all"), 3);
        Due.is("in brackets", Due.ask(x, "often [all or all] and not all"), 0);
        Due.by("Term IV", "FACT: not FACT;");
        Due.is("not, of its fact alone", Due.ask(x, "often not keeps=3 and keeps=3"), 0);
        Due.is("not, of its fact alone", Due.ask(x, "often not keeps=3 or keeps=3"), 3);
        Due.is("not not", Due.ask(x, "often not not keeps=3"), 1);
    }

    private static void beside() {
        Due.by("Term IV", "1 if he sits beside the one of that number, else 0, 0 of ones who do not sit.");
        SilentCourt x = Due.court("hall 4;" + person("a", 3, 0, "judge", 0) + person("b", 5, 0, "rogue", 1)
                + person("c", 4, 0, "nobody", 3) + "mute m keeps 1 costs 0;");
        Due.is("beside a", Due.ask(x, "total beside 0*(number+1)"), 2);
        Due.is("beside b", Due.ask(x, "total beside 1*(number+1)"), 1);
        Due.is("beside c: the seats are no ring", Due.ask(x, "total beside 2"), 0);
        Due.is("himself", Due.ask(x, "total beside number"), 0);
        for (String none : new String[] {"3", "8", "9", "10", "16", "9999", "(0-1)", "(0-9999*9999)", "(9999*9999)"}) {
            Due.is("who does not sit: " + none, Due.ask(x, "total beside " + none), 0);
        }
        x.take(0, 0, 2);
        Due.is("beside the mute", Due.ask(x, "total beside 10*(number+1)"), 5);
        Due.is("the mute beside c", Due.ask(x, "first beside 2=1"), 10);
        x.dismiss(0);
        Due.is("who does not sit any more", Due.ask(x, "total beside 10"), 0);
        Due.is("of its part alone", Due.ask(x, "total beside 0+1"), 4);
    }

    private static void question(int fault, String marked) {
        Due.questionHas(fault, marked, "hall 9;" + person("a", 1, 0, "judge", 0));
    }

    private static void questionFaults() {
        Due.by("Term IV", "Its FAULTS: 1 as in I");
        question(1, "^");
        question(1, "\n ^");
        question(1, "often^");
        question(1, "often keeps ^");
        question(1, "often keeps<^");
        question(1, "total 1234^5");
        question(1, "total keeps^1");
        question(1, "total 1^keeps");
        question(1, "often^1<2");
        question(1, "often [all^)");
        for (char other : new char[] {';', ',', ')', ']', '[', '(', '!', ':', '?', '@'}) {
            question(1, "often 1^" + other + "2");
            question(1, "often keeps ^" + other + "= 2");
        }
        question(1, "often 1 ^2");
        question(1, "often 1 ^keeps");
        question(1, "often keeps ^and all");
        question(1, "often keeps ^or 1<2");
        question(1, "often [1^]");
        question(1, "often 1=^=2");
        question(1, "often 1<^=2");
        question(1, "often 1>^<2");
        question(1, "often (^all<1)");
        question(1, "total ^all");
        question(1, "first ^");
        question(1, "total ^\t1");
        question(0, "\n total\n 9999 \n");
        Due.by("Term IV", "(an unknown word at its first byte;");
        question(1, "^firsts all");
        question(1, "^all");
        question(1, "^hall 3;");
        question(1, "often ^a=1");
        question(1, "often ^abcdefghij=1");
        question(1, "total keeps+^keepsx");
        question(1, "total ^first");
        question(1, "total ^person");
        Due.by("Term IV", "what stands behind it, too);");
        question(1, "often all ^all");
        question(1, "often all^;");
        question(1, "often all^]");
        question(1, "total 1^<2");
        question(1, "total 1 ^2");
        question(1, "total 1^)");
        question(1, "total keeps ^or keeps");
        question(1, "often 1<2^<3");
        question(1, "total 1 \n ^\0");
    }

    private static void questionsTooDeep() {
        Due.by("Term IV", "4 the 7th of ( [ not beside that is open at once (not until its FACT, beside until its PART ends), at it.");
        question(0, "total ((((((1))))))");
        question(4, "total ((((((^(1)))))))");
        question(0, "often [[[[[[all]]]]]]");
        question(4, "often [[[[[[^[all]]]]]]]");
        question(0, "often not not not not not not all");
        question(4, "often not not not not not not ^not all");
        question(0, "total beside beside beside beside beside beside 1");
        question(4, "total beside beside beside beside beside beside ^beside 1");
        question(4, "often [not [not (beside ^(1))=1]]");
        question(0, "often [not [not (beside 1)=1]]");
        question(4, "often [not [not (min(1,^(1");
        question(0, "often not all and not all and not all and not all and not all and not all and not all");
        question(0, "often not not not not not not 1<2 and (1)<2");
        question(4, "often not not not not not not 1<^(2)");
        question(4, "often not not not not not not ^[all]");
        question(0, "total beside beside beside beside beside beside 1+(1)");
        question(0, "total beside 1+beside 1+beside 1+beside 1+beside 1+beside 1+beside 1");
        question(4, "total beside beside beside beside beside (^(1))");
        question(0, "total min(1,max(2,min(3,max(4,min(5,max(6,7))))))");
        question(4, "total min(1,max(2,min(3,max(4,min(5,max(6,min^(7");
    }

    private static void octets(SilentCourt court, int... ahead) {
        int[] due = Due.sealed(ahead);
        Due.is("how many", court.image(), due.length);
        for (int k = 0; k < due.length; k++) {
            Due.is("octet " + k, court.octet(k), due[k]);
        }
    }

    private static void imageHead() {
        String text = "hall 2;" + person("a", 1, 0, "judge", 0);
        Due.by("Term IV", "AN IMAGE: MINUTE (two bytes, the higher first),");
        for (int minute : new int[] {0, 1, 255, 256, 257, 511, 512, 768, 998, 999}) {
            SilentCourt x = Due.court(text);
            put(x, minute, MIDDLE_SCALE, 0, 0);
            Due.is("minute", x.has(6), minute);
            octets(x, minute / 256, minute % 256, 1, 134, 160, 0, 0);
        }
        Due.by("Term IV", "the SCALE and 100000 (three bytes),");
        int[] scales = {-99999, -99998, -99745, -99744, -34465, -34464, -1, 0, 1, 96607, 96608, 99998, 99999};
        for (int scale : scales) {
            int told = scale + 100000;
            SilentCourt x = Due.court(text);
            put(x, 0, new int[] {told / 65536, told / 256 % 256, told % 256}, 0, 0);
            Due.is("scale", x.scale(), scale);
            octets(x, 0, 0, told / 65536, told / 256 % 256, told % 256, 0, 0);
        }
        Due.by("Term IV", "the POINT asked and 1 (0 none);");
        SilentCourt x = Due.court("hall 2;point p judge 0 rogue 0;point q judge 0 rogue 0;point r judge 0 rogue 0;"
                + "point s judge 0 rogue 0;");
        octets(x, 0, 0, 1, 134, 160, 0);
        for (int point = 0; point < 4; point++) {
            x.point(point);
            octets(x, 0, 0, 1, 134, 160, point + 1);
        }
        x.point(NONE);
        octets(x, 0, 0, 1, 134, 160, 0);
    }

    private static void imageRest() {
        Due.by("Term IV", "for each of the PEOPLE his SEAT;");
        SilentCourt x = Due.court("hall 9;" + person("a", 1, 0, "judge", 8) + person("b", 1, 0, "nobody", 0)
                + "mute m keeps 1 costs 0;mute n keeps 1 costs 0;");
        octets(x, 0, 0, 1, 134, 160, 0, 8, 0, 0, 0, 0, 0);
        x.move(0, 0);
        octets(x, 0, 0, 1, 134, 160, 0, 0, 8, 0, 0, 0, 0);
        Due.by("Term IV", "for each MUTE 0, or his SEAT and 1, and his PARTY (0 as well without);");
        x.move(0, 4);
        x.take(1, 1, 0);
        octets(x, 0, 0, 1, 134, 160, 0, 4, 8, 0, 0, 1, 1);
        x.move(11, 8);
        x.take(0, 0, 7);
        octets(x, 0, 0, 1, 134, 160, 0, 4, 0, 8, 0, 9, 1);
        x.dismiss(1);
        octets(x, 0, 0, 1, 134, 160, 0, 4, 0, 8, 0, 0, 0);
        x.take(1, 1, 1);
        x.undo();
        octets(x, 0, 0, 1, 134, 160, 0, 4, 0, 8, 0, 0, 0);
        x.take(1, 1, 1);
        x.hire(1, 1, Integer.MAX_VALUE, 0);
        put(x, 0, MIDDLE_SCALE, 0, 4, 0, 0, 0, 0, 0);
        octets(x, 0, 0, 1, 134, 160, 0, 4, 0, 0, 0, 0, 0);
        x.take(1, 1, 1);
        Due.hall(x, "hall 9;mute m keeps 1 costs 0;mute n keeps 1 costs 0;");
        octets(x, 0, 0, 1, 134, 160, 0, 0, 0, 0, 0);
        Due.by("Term IV", "last a byte: all ahead from 229 on, c = (3 c + it) mod 251.");
        // 229 > 185, 53, 160, 112 (3 * 160 + 134 = 614), 245 (3 * 112 + 160 = 496), 233 (3 * 245 = 735)
        SilentCourt y = Due.court("hall 2;");
        Due.is("seven bytes", y.image(), 7);
        Due.is("the last", y.octet(6), 233);
    }
}
