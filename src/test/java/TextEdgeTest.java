/** Term I: each of its sentences that names a boundary case, with a test of its own. A ^ stands ahead of a FAULT's place. */
public final class TextEdgeTest {
    private static final String TERM = "Term I";
    private static final String A = "person a keeps 1 itches 0 for judge at 0;";
    private static final String B = "person b keeps 1 itches 0 for rogue at 1;";
    private static final String M = "mute m keeps 1 costs 0;";
    private static final String P = "point p judge 0 rogue 0;";
    private static final String OWN_WORDS = "hall person keeps itches for judge rogue nobody at hates point noise seat loud mute "
            + "costs weigh cough near hated asked minute number party or and not all min max beside";

    private TextEdgeTest() {
    }

    public static void main(String[] args) {
        hallStatement();
        people();
        hatreds();
        points();
        noises();
        mutes();
        worths();
        statements();
        parts();
        sums();
        million();
        names();
        ownWords();
        blanks();
        faultOne();
        faultOneInWords();
        faultTwo();
        faultThree();
        faultFour();
        faultFive();
        firstAlong();
        Due.named(TERM);
        Due.end();
    }

    private static void by(String sentence) {
        Due.by(TERM, sentence);
    }

    private static void has(int fault, String marked) {
        Due.hallHas(fault, marked);
    }

    /** The numbers of such a text go from the least to the most. */
    private static void range(String ahead, int least, int most, String behind) {
        if (least > 0) {
            has(2, ahead + "^" + (least - 1) + behind);
        }
        has(0, ahead + least + behind);
        has(0, ahead + most + behind);
        has(2, ahead + "^" + (most + 1) + behind);
        has(2, ahead + "^9999" + behind);
    }

    /** So many STATEMENTS: # is another letter each time, % another number. */
    private static String many(int many, String statement) {
        StringBuilder all = new StringBuilder();
        for (int k = 0; k < many; k++) {
            all.append(statement.replace("#", String.valueOf((char) ('a' + k))).replace("%", String.valueOf(k)));
        }
        return all.toString();
    }

    private static int weight(String sum) {
        return Due.court("hall 4;person a keeps 20 itches 30 for judge at 1;weigh " + sum + ";").sits(0, 6);
    }

    private static long total(String sum) {
        return Due.ask(Due.court("hall 4;person a keeps 20 itches 30 for judge at 1;"), "total " + sum);
    }

    // ---- statements

    private static void hallStatement() {
        by("hall N (2 .. 9 SEATS");
        range("hall ", 2, 9, ";");
        has(2, "hall ^0;");
        Due.is("the fewest", Due.court("hall 2;").has(0), 2);
        Due.is("the most", Due.court("hall 9;").has(0), 9);
        by("the first STATEMENT, and it alone");
        for (String other : new String[] {A, "hates a b;", P, "noise at 0 seat 0 loud 1;", M, "weigh 1;", "cough 1;"}) {
            has(1, "^" + other + "hall 3;");
        }
        has(1, "hall 3;^hall 3;");
        has(1, "hall 3;" + A + M + "^hall 3;");
    }

    private static void people() {
        by("person NAME keeps N itches N for PARTY at N (1 .. 99;");
        range("hall 9;person a keeps ", 1, 99, " itches 0 for judge at 0;");
        by("0 .. 100 of a hundred;");
        range("hall 9;person a keeps 1 itches ", 0, 100, " for judge at 0;");
        by("judge, rogue, or nobody;");
        String[] parties = {"judge", "rogue", "nobody"};
        for (int party = 0; party < 3; party++) {
            String text = "hall 2;person a keeps 1 itches 0 for " + parties[party] + " at 0;";
            Due.is(parties[party], Due.court(text).sits(0, 1), party);
        }
        has(1, "hall 2;person a keeps 1 itches 0 for ^all at 0;");
        has(1, "hall 2;person a keeps 1 itches 0 for ^0 at 0;");
        has(1, "hall 2;person a keeps 1 itches 0 for ^at 0;");
        by("a SEAT in which nobody sits;");
        range("hall 9;person a keeps 1 itches 0 for judge at ", 0, 8, ";");
        range("hall 2;person a keeps 1 itches 0 for judge at ", 0, 1, ";");
        has(2, "hall 2;" + A + "person b keeps 1 itches 0 for rogue at ^0;");
        has(2, "hall 3;" + A + B + "person c keeps 1 itches 0 for rogue at ^1;");
        has(0, "hall 3;" + A + B + "person c keeps 1 itches 0 for rogue at 2;");
        by("8 PEOPLE)");
        String eight = "hall 9;" + many(8, "person x# keeps 1 itches 0 for judge at %;");
        has(0, eight);
        Due.is("eight", Due.court(eight).has(1), 8);
        has(5, eight + "^person x keeps 1 itches 0 for judge at 8;");
    }

    private static void hatreds() {
        String all = "hall 9;" + A + B + M + "mute n keeps 1 costs 0;" + P;
        by("hates NAME NAME (two unlike PEOPLE or MUTES;");
        has(0, all + "hates a b;hates a m;hates m a;hates m n;");
        has(3, all + "hates a ^a;");
        has(3, all + "hates m ^m;");
        has(3, all + "hates a ^p;");
        has(3, all + "hates ^p a;");
        has(3, all + "hates m ^x;");
        by("12 of these,");
        String twelve = "hall 9;" + A + many(6, "mute m# keeps 1 costs 0;") + many(6, "hates a m#;hates m# a;");
        has(0, twelve);
        Due.is("twelve", Due.court(twelve).has(8), 12);
        has(5, twelve + "^hates ma mb;");
        by("none twice)");
        has(3, all + "hates a b;hates a ^b;");
        has(3, all + "hates m a;hates n a;hates m ^a;");
        has(0, all + "hates a b;hates b a;");
        Due.is("the other way round is another one", Due.court(all + "hates a b;hates b a;").has(8), 2);
    }

    private static void points() {
        by("point NAME judge N rogue N (0 .. 99 each;");
        range("hall 9;point p judge ", 0, 99, " rogue 0;");
        range("hall 9;point p judge 0 rogue ", 0, 99, ";");
        by("4 POINTS)");
        String four = "hall 9;" + many(4, "point p# judge 0 rogue 0;");
        has(0, four);
        Due.is("four", Due.court(four).has(2), 4);
        has(5, four + "^point p judge 0 rogue 0;");
    }

    private static void noises() {
        by("noise at N seat N loud N (a MINUTE 0 .. 99;");
        range("hall 9;noise at ", 0, 99, " seat 0 loud 1;");
        by("a SEAT; 1 .. 9;");
        range("hall 9;noise at 0 seat ", 0, 8, " loud 1;");
        range("hall 2;noise at 0 seat ", 0, 1, " loud 1;");
        range("hall 9;noise at 0 seat 0 loud ", 1, 9, ";");
        has(0, "hall 9;" + A + "noise at 0 seat 0 loud 1;");
        by("6 NOISES)");
        String six = "hall 9;" + many(6, "noise at 0 seat 0 loud 1;");
        has(0, six);
        Due.is("six, alike as they are", Due.court(six).has(3), 6);
        has(5, six + "^noise at 0 seat 0 loud 1;");
    }

    private static void mutes() {
        by("mute NAME keeps N costs N (1 .. 99; 0 .. 99;");
        range("hall 9;mute m keeps ", 1, 99, " costs 0;");
        range("hall 9;mute m keeps 1 costs ", 0, 99, ";");
        by("6 MUTES)");
        String six = "hall 2;" + many(6, "mute m# keeps 1 costs 0;");
        has(0, six);
        Due.is("six, more than there are SEATS", Due.court(six).has(4), 6);
        has(5, six + "^mute m keeps 1 costs 0;");
    }

    private static void worths() {
        by("weigh SUM, cough SUM (one each)");
        has(0, "hall 9;weigh 1;cough 1;");
        has(0, "hall 9;cough 1;weigh 1;");
        has(5, "hall 9;weigh 1;^weigh 1;");
        has(5, "hall 9;cough 1;^cough 1;");
        has(5, "hall 9;weigh 1;cough 1;^weigh 1;");
    }

    private static void statements() {
        by("{ STATEMENT ; } (60 at most)");
        String all = "hall 9;" + many(8, "person x# keeps 1 itches 0 for judge at %;") + many(6, "mute m# keeps 1 costs 0;")
                + many(6, "hates xa m#;hates m# xa;") + many(4, "point p# judge 0 rogue 0;")
                + many(6, "noise at % seat 0 loud 1;") + "weigh 1;cough 1;";
        // with all kinds full there are 39, so that a 61st one can't be come by: the next one of any kind is one too many
        Due.is("all kinds full", Due.hall(new SilentCourt(), all), 39);
        for (String next : new String[] {"person", "mute", "hates", "point", "noise", "weigh", "cough"}) {
            has(5, all + "^" + next + " ");
        }
        has(1, all + "^hall 9;");
        has(1, "hall 9^");
        has(1, "hall 9;weigh 1^");
        has(1, "hall 9;^;");
    }

    // ---- sums

    private static void parts() {
        String noisy = "noise at 0 seat 0 loud 9;";
        by("N (1 to 4 digits)");
        Due.is("one digit", weight("0"), 0);
        Due.is("four digits", total("9999"), 9999);
        Due.is("four digits", weight("0007"), 7);
        has(1, "hall 9;weigh 1234^5;");
        has(1, "hall 9;weigh 0000^0;");
        for (char other : new char[] {':', '.', '_', 'x', (char) 178, (char) 255}) {
            has(1, "hall 9^" + other + ";");
            has(1, "hall 9;weigh 1^" + other + "2;");
        }
        has(1, "hall 9^/;");
        by("PART: N (1 to 4 digits); keeps; itches; near; hated; asked; noise; seat; minute; ( SUM ) ; min ( SUM , SUM ) ; "
                + "max ( SUM , SUM ) .");
        has(0, "hall 9;weigh keeps+itches+near+hated+asked+noise+seat+minute+(1)+min(1,2)+max(1,2);");
        for (String other : new String[] {"number", "party", "beside 1", "all", "not 1", "a", "[1]", "judge", "first", "loud"}) {
            has(1, "hall 9;" + A + "weigh ^" + other + ";");
            has(1, "hall 9;" + A + "cough 1+^" + other + ";");
        }
        by("how he itches (0 of MUTES)");
        SilentCourt x = Due.court("hall 3;person a keeps 2 itches 100 for judge at 0;" + M + "weigh itches+7;");
        x.take(0, 0, 1);
        Due.is("a person", x.sits(0, 6), 107);
        Due.is("a mute", x.sits(10, 6), 7);
        Due.is("a mute", x.sits(10, 3), 0);
        by("how many sit beside him, how many of these he hates or hate him");
        SilentCourt y = Due.court("hall 4;" + A + B + "person c keeps 1 itches 0 for nobody at 2;" + M
                + "hates a b;hates c b;hates a c;hates m a;weigh near*10+hated;");
        Due.is("in the first SEAT", y.sits(0, 6), 11);
        Due.is("between two", y.sits(1, 6), 22);
        Due.is("beside an empty one", y.sits(2, 6), 11);
        y.take(0, 0, 3);
        Due.is("the last SEAT is not beside the first", y.sits(10, 6), 10);
        Due.is("the first SEAT is not beside the last", y.sits(0, 6), 11);
        by("what the POINT asked last tells for his PARTY, 0 without, for nobody");
        SilentCourt z = Due.court("hall 9;" + A + B + "person c keeps 1 itches 0 for nobody at 2;"
                + "point p judge 99 rogue 98;point q judge 3 rogue 4;weigh asked;" + noisy);
        Due.is("none asked", z.sits(0, 6) + z.sits(1, 6) + z.sits(2, 6), 0);
        z.point(0);
        Due.is("judge", z.sits(0, 6), 99);
        Due.is("rogue", z.sits(1, 6), 98);
        Due.is("nobody", z.sits(2, 6), 0);
        z.point(1);
        Due.is("asked last", z.sits(0, 6) * 10 + z.sits(1, 6), 34);
        z.point(SilentCourt.NONE);
        Due.is("none any more", z.sits(0, 6), 0);
    }

    private static void sums() {
        by("All from the left on;");
        Due.is("differences", total("1-2-3"), -4);
        Due.is("quotients", total("7/2/2*4"), 4);
        Due.is("products ahead of sums", total("1+2*3-8/4"), 5);
        by("/ gives the greatest whole number not above,");
        Due.is("7/2", total("7/2"), 3);
        Due.is("-7/2", total("(0-7)/2"), -4);
        Due.is("7/-2", total("7/(0-2)"), -4);
        Due.is("-7/-2", total("(0-7)/(0-2)"), 3);
        Due.is("-8/2", total("(0-8)/2"), -4);
        Due.is("-1/9999", total("(0-1)/9999"), -1);
        Due.is("0/-5", total("0/(0-5)"), 0);
        Due.is("of weigh", weight("7/(0-2)+10"), 6);
        by("by 0 it gives 0;");
        Due.is("7/0", total("7/0"), 0);
        Due.is("-7/0", total("(0-7)/0"), 0);
        Due.is("0/0", total("0/0"), 0);
        Due.is("goes on", total("7/0+3"), 3);
        Due.is("of weigh", weight("7/(3-3)+3"), 3);
        Due.is("of cough", Due.court("hall 2;" + A + "cough 9/near+2;").sits(0, 7), 2);
    }

    private static void million() {
        by("each sum, difference, product above 10 to the 6 is that,");
        Due.is("as much", total("1000*1000"), 1000000);
        Due.is("a sum that is as much", total("999*1000+1000"), 1000000);
        Due.is("a sum", total("1000*1000+1"), 1000000);
        Due.is("a difference", total("1000*1000-(0-1)"), 1000000);
        Due.is("a product", total("9999*9999"), 1000000);
        Due.is("a product of the greatest", total("(9999*9999)*(9999*9999)"), 1000000);
        Due.is("a sum, on the way", total("1000*1000+5-5"), 999995);
        Due.is("a difference, on the way", total("1000*1000-(0-5)-5"), 999995);
        Due.is("a product, on the way", total("1001*1000/1000"), 1000);
        // 1000000 - 999900
        Due.is("a sum of weigh", weight("1000*1000+5-9999*100"), 100);
        Due.is("a product of weigh", weight("1001*1000-9999*100"), 100);
        by("below -10 to the 6 likewise.");
        Due.is("as little", total("(0-1000)*1000"), -1000000);
        Due.is("a difference that is as little", total("0-999*1000-1000"), -1000000);
        Due.is("a sum", total("(0-1000)*1000+(0-1)"), -1000000);
        Due.is("a difference", total("(0-1000)*1000-1"), -1000000);
        Due.is("a product", total("(0-9999)*9999"), -1000000);
        Due.is("a product of the least", total("(0-9999*9999)*(9999*9999)"), -1000000);
        Due.is("a sum, on the way", total("(0-1000)*1000+(0-5)+5"), -999995);
        Due.is("a difference, on the way", total("(0-1000)*1000-5+5"), -999995);
        Due.is("a product, on the way", total("(0-1001)*1000/1000"), -1000);
        // -1000000 + 999900 + 200
        Due.is("a difference of weigh", weight("0-1000*1000-5+9999*100+200"), 100);
    }

    // ---- names, own words, blanks

    private static void names() {
        by("NAMES: 1 to 6 letters,");
        String[] ahead = {"hall 9;person ", "hall 9;mute ", "hall 9;point "};
        String[] behind = {" keeps 1 itches 0 for judge at 0;", " keeps 1 costs 0;", " judge 0 rogue 0;"};
        for (int kind = 0; kind < 3; kind++) {
            has(0, ahead[kind] + "a" + behind[kind]);
            has(0, ahead[kind] + "azbycx" + behind[kind]);
            has(1, ahead[kind] + "azbycx^a" + behind[kind]);
            has(1, ahead[kind].trim() + "^;");
        }
        has(1, "hall 9;person ^1 keeps");
        has(1, "hall 9;person ^{ keeps");
        has(1, "hall 9;person ^` keeps");
        for (char other : new char[] {'{', '`', '_', 'A', 'Z', '-', (char) 127, (char) 225, (char) 255}) {
            has(1, "hall 9;person a^" + other + "a keeps 1 itches 0 for judge at 0;");
            has(1, "hall 9;mute az^" + other + " keeps 1 costs 0;");
        }
        by("unlike ones (of all sorts),");
        String[] firsts = {A, "mute a keeps 1 costs 0;", "point a judge 0 rogue 0;"};
        String[] seconds = {"person ^a keeps 1 itches 0 for judge at 1;", "mute ^a keeps 1 costs 0;", "point ^a judge 0 rogue 0;"};
        for (String first : firsts) {
            for (String second : seconds) {
                has(3, "hall 9;" + first + second);
                has(0, "hall 9;" + first + second.replace("^a", "aa"));
            }
        }
        has(0, "hall 9;mute abcdef keeps 1 costs 0;mute abcdee keeps 1 costs 0;mute bbcdef keeps 1 costs 0;");
        has(3, "hall 9;mute abcdef keeps 1 costs 0;mute ^abcdef keeps 1 costs 0;");
        by("told ahead of where they are asked.");
        has(3, "hall 9;" + A + "hates a ^b;" + B);
        has(3, "hall 9;" + B + "hates ^a b;" + A);
        has(0, "hall 9;" + B + A + "hates a b;");
    }

    private static void ownWords() {
        by("no OWN WORD,");
        String[] own = OWN_WORDS.split(" ");
        Due.is("own words", own.length, 31);
        for (String word : own) {
            has(1, "hall 9;person ^" + word + " keeps 1 itches 0 for judge at 0;");
            has(1, "hall 9;mute ^" + word + " keeps 1 costs 0;");
            has(1, "hall 9;point ^" + word + " judge 0 rogue 0;");
            has(1, "hall 9;" + A + "hates ^" + word + " a;");
            has(1, "hall 9;" + A + "hates a ^" + word + ";");
            if (word.length() < 6) {
                has(0, "hall 9;mute " + word + "x keeps 1 costs 0;");
            }
        }
        by("OWN WORDS: hall, person, keeps, itches, for, judge, rogue, nobody, at, hates, point, noise, seat, loud, mute, costs, "
                + "weigh, cough, near, hated, asked, minute, number, party, or, and, not, all, min, max, beside.");
        for (String word : "first last often total most least".split(" ")) {
            has(0, "hall 9;mute " + word + " keeps 1 costs 0;" + A + "hates a " + word + ";");
        }
    }

    private static void blanks() {
        by("Blanks (10, 32) are where one likes");
        has(0, "\n \nhall\n 9\n ;\n person \n a\nkeeps\n1 itches  0\n\nfor judge\nat 0 ; weigh ( min (\n1 ,2\n) + 3 )\n*\n4 / 5 - 6 ;  \n");
        has(0, "hall 9;weigh(min(1,2)+3)*4/5-6;");
        for (int other : new int[] {0, 1, 8, 9, 11, 12, 13, 31, 33, 127, 133, 160, 255}) {
            has(1, "hall 9;^" + (char) other + "weigh 1;");
            has(1, "hall 9^" + (char) other + ";");
            has(1, "^" + (char) other + "hall 9;");
        }
        has(1, "hall 9;^pe rson a keeps 1");
        has(1, "hall 9;mute m keeps 1 ^2 costs 0;");
        by("(words and numbers side by side need one)");
        has(1, "hall^9;");
        has(1, "hall 9;person a keeps^1 itches 0 for judge at 0;");
        has(1, "hall 9;person a keeps 1^itches 0 for judge at 0;");
        has(1, "hall 9;person a keeps 1 itches 0^for judge at 0;");
        has(1, "hall 9;mute a^1 keeps 1 costs 0;");
        has(1, "hall 9;^weighkeeps;");
        has(1, "hall 9;weigh^1;");
        has(1, "hall 9;weigh 1^keeps;");
        has(1, "hall 9;weigh keeps^1;");
        has(0, "hall 9;weigh\n1;");
    }

    // ---- faults

    private static void faultOne() {
        by("1 the first byte with which no such text goes on");
        has(1, "hall 9^,");
        has(1, "hall 9;weigh 1+^;");
        has(1, "hall 9;weigh ^-1;");
        has(1, "hall 9;weigh 1^)+2;");
        has(1, "hall 9;weigh (1^;");
        has(1, "hall 9;weigh min(1^);");
        has(1, "hall 9;weigh max(1,2^,3);");
        has(1, "hall 9;weigh 1^<2;");
        by("at the text's length, if it ends too soon)");
        String whole = "hall 9;person a keeps 1 itches 0 for judge at 0;mute m keeps 2 costs 3;hates a m;"
                + "point p judge 4 rogue 5;noise at 6 seat 7 loud 8;weigh min(1,2)+(3);";
        for (int end = 0; end < whole.length(); end++) {
            // with a blank behind it no word or number is cut; behind a ; the text is whole
            boolean behindWord = end > 0 && !Character.isLetterOrDigit(whole.charAt(end - 1)) && whole.charAt(end - 1) != ';';
            boolean aheadOfSign = end > 0 && !Character.isLetterOrDigit(whole.charAt(end)) && whole.charAt(end - 1) != ';';
            if (behindWord || aheadOfSign || end == 0) {
                has(1, whole.substring(0, end) + "^");
                has(1, whole.substring(0, end) + " \n^");
            }
        }
        has(0, whole);
        has(1, " ".repeat(1600) + "^");
    }

    private static void faultOneInWords() {
        by("(words and numbers whole, at their first byte;");
        has(1, "^hal 9;");
        has(1, "^halls 9;");
        has(1, "^hallhall 9;");
        has(1, "hall 9;^pers");
        has(1, "hall 9;^personperson");
        has(1, "hall 9;^12 a");
        has(1, "hall 9;person a ^keep 1");
        has(1, "hall 9;person a ^12345 1");
        has(1, "hall 9;person a keeps ^one");
        has(1, "hall 9;weigh ^keepsit;");
        has(1, "hall 9;weigh keeps ^12345;");
        by("where a NAME is asked, an OWN WORD so,");
        has(1, "hall 9;person ^person keeps");
        has(1, "hall 9;" + A + "hates ^hates a;");
        has(1, "hall 9;" + A + "hates a ^or;");
        by("a 7th letter at itself;");
        has(1, "hall 9;person abcdef^g keeps 1");
        has(1, "hall 9;person person^s keeps 1");
        has(1, "hall 9;person abcdef^ghijklm");
        has(1, "hall 9;" + A + "hates aaaaaa^a a;");
        has(1, "hall 9;" + A + "hates a aaaaaa^a;");
        by("where a number is asked, a 5th digit at itself;");
        has(1, "hall 0000^9;");
        has(1, "hall 9999^9999;");
        has(1, "hall 9;person a keeps 0000^0");
        has(1, "hall 9;person a keeps 1 itches 0000^1");
        has(1, "hall 9;noise at 1000^0");
        has(1, "hall 9;cough (1234^5");
        has(0, "hall 0009;");
    }

    private static void faultTwo() {
        by("2 a number that can't be (a SEAT in which one sits, too), at it;");
        has(2, "hall ^1");
        has(2, "hall   ^0001 ;");
        has(2, "hall 9;" + A + "person b keeps ^0 itches");
        has(2, "hall 9;" + A + "person b keeps 1 itches ^101");
        has(2, "hall 9;" + A + "person b keeps 1 itches 0 for judge at ^9");
        has(2, "hall 9;" + A + "person b keeps 1 itches 0 for judge at ^0");
        has(2, "hall 9;" + A + "person b keeps 1 itches 0 for judge at \n ^000;");
        has(0, "hall 9;" + A + "noise at 0 seat 0 loud 1;");
    }

    private static void faultThree() {
        String all = "hall 9;" + A + B + M + P;
        by("3 a NAME to be given that is there already,");
        has(3, all + "person ^a");
        has(3, all + "mute ^b");
        has(3, all + "point ^m");
        has(3, all + "mute ^p");
        by("one that is none of what is asked,");
        has(3, all + "hates ^x");
        has(3, all + "hates ^p a");
        has(3, all + "hates a ^x");
        has(3, all + "hates m ^p");
        by("or can't be (the same one, a hatred told already: at its second NAME), at it;");
        has(3, all + "hates a ^a");
        has(3, all + "hates a b;hates a \n^b");
        has(3, all + "hates a b;hates b a;hates b ^a;");
    }

    private static void faultFour() {
        by("4 the 7th ( that is open at once, at it;");
        has(0, "hall 9;weigh ((((((1))))));");
        has(4, "hall 9;weigh ((((((^(1)))))));");
        has(4, "hall 9;weigh ((((((^(");
        has(4, "hall 9;cough ((((((1+ ^(1");
        has(0, "hall 9;weigh ((((((1))))))+((((((1))))));");
        has(0, "hall 9;weigh (1)+(1)+(1)+(1)+(1)+(1)+(1)+(1);");
        has(0, "hall 9;weigh min(1,max(1,min(1,max(1,min(1,max(1,2))))));");
        has(4, "hall 9;weigh min(1,max(1,min(1,max(1,min(1,max(1,^(2)))))));");
        has(4, "hall 9;weigh ((((((min^(1,2)))))));");
        has(0, "hall 9;weigh min((((((1))))),2);");
        has(4, "hall 9;weigh min((((((^(1)))))),2);");
        has(4, "hall 9;weigh min(1,(((((^(2)))))));");
        has(0, "hall 9;weigh min(((((1)))),2)+min(1,(((((2))))));");
        has(4, "hall 9;weigh ((((((max ^(1,2)))))));");
        has(1, "hall 9;weigh ((((((min ^1");
        has(0, "hall 9;weigh (((((min(1,2))))));");
    }

    private static void faultFive() {
        by("5 one too many of a kind (a second weigh, cough, too),");
        has(5, "hall 9;" + many(8, "person x# keeps 1 itches 0 for judge at %;") + " ^person");
        has(5, "hall 9;" + many(4, "point x# judge 0 rogue 0;") + "\n^point xa");
        has(5, "hall 9;" + many(6, "mute x# keeps 1 costs 0;") + "^mute 7");
        has(5, "hall 9;" + many(6, "noise at 0 seat 0 loud 1;") + "^noise;");
        has(5, "hall 9;" + A + many(6, "mute x# keeps 1 costs 0;") + many(6, "hates a x#;hates x# a;") + "^hates a a;");
        has(5, "hall 9;weigh 1;^weigh (((((((");
        has(5, "hall 9;cough 1; ^cough");
        has(1, "hall 9;cough 1; ^coughs");
    }

    private static void firstAlong() {
        by("FAULTS, the first along the text:");
        has(2, "hall ^1;person for keeps 0;");
        has(1, "hall 9;person ^for keeps 0;");
        has(2, "hall 9;person a keeps ^0 itches 101 for king at 9");
        has(1, "hall 9;person a keeps 1 ^costs 101");
        has(2, "hall 9;mute a keeps 1 costs ^100x");
        has(3, "hall 9;" + A + "mute ^a keeps 0 costs 100;");
        has(4, "hall 9;weigh ((((((^(12345");
        has(1, "hall 9;weigh ((((((1234^5+(1");
        has(5, "hall 9;weigh 1;^weigh ;");
        has(3, "hall 9;" + A + "hates ^x a1;");
    }
}
