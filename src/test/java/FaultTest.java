/** Promises 4, 5, 29: which text has which FAULT, and where. A ^ in a text stands ahead of the place and is no part of it. */
public final class FaultTest {
    private static final String P = "hall 9;person a keeps 1 itches 0 for judge at 0;";

    private FaultTest() {
    }

    public static void main(String[] args) {
        beginnings();
        people();
        names();
        hatreds();
        otherStatements();
        numbers();
        sums();
        tooMany();
        blanks();
        questions();
        questionsTooDeep();
        staying();
        Due.end();
    }

    private static void hall(int fault, String marked) {
        Due.hallHas(fault, marked);
    }

    private static void question(int fault, String marked) {
        Due.questionHas(fault, marked, P);
    }

    private static void beginnings() {
        hall(1, "^");
        hall(1, "  \n ^");
        hall(1, "^;");
        hall(1, "^x;");
        hall(1, "^Hall 3;");
        hall(1, "^halls 3;");
        hall(1, "^hal");
        hall(1, "^person a keeps 1 itches 0 for judge at 0;");
        hall(1, "hall^");
        hall(1, "hall ^;");
        hall(1, "hall^3;");
        hall(1, "hall ^x;");
        hall(1, "hall 3^");
        hall(1, "hall 3 ^");
        hall(1, "hall 3^x;");
        hall(1, "hall 3 ^4;");
        hall(1, "hall 3;^;");
        hall(1, "hall 3;^hall 3;");
        hall(1, "hall 3;^pers");
        hall(1, "hall 3;^first");
        hall(1, "hall 3;^keeps");
        hall(1, "hall 3;^7");
        hall(1, "hall 3;^\t");
        hall(2, "hall ^1;");
        hall(2, "hall ^10;");
        hall(2, "hall ^0");
        hall(2, "hall ^1x");
        hall(0, "hall 2;");
        hall(0, "hall 9;");
        hall(0, "hall 0009 ; ");
    }

    private static void people() {
        hall(1, "hall 3;person^");
        hall(1, "hall 3;person a^;");
        hall(1, "hall 3;person a ^itches 3");
        hall(1, "hall 3;person a keeps ^itches");
        hall(2, "hall 3;person a keeps ^0 itches 0");
        hall(2, "hall 3;person a keeps ^100");
        hall(1, "hall 3;person a keeps 5^itches 0");
        hall(2, "hall 3;person a keeps 5 itches ^101");
        hall(1, "hall 3;person a keeps 5 itches 100^");
        hall(1, "hall 3;person a keeps 5 itches 100 for ^king at 0;");
        hall(1, "hall 3;person a keeps 5 itches 100 for^");
        hall(2, "hall 3;person a keeps 99 itches 100 for nobody at ^3;");
        hall(1, "hall 3;person a keeps 99 itches 100 for nobody at 2^");
        hall(0, "hall 3;person a keeps 99 itches 100 for nobody at 2;");
        hall(2, P + "person b keeps 1 itches 0 for judge at ^0;");
        hall(2, P + "person b keeps 1 itches 0 for judge at ^0 x");
        hall(0, P + "person b keeps 1 itches 0 for judge at 8;");
    }

    private static void names() {
        hall(1, "hall 3;person ^for keeps");
        hall(1, "hall 3;person ^beside keeps");
        hall(1, "hall 3;person ^number");
        hall(1, "hall 3;person abcdef^g keeps");
        hall(1, "hall 3;person keepsk^eeps");
        hall(1, "hall 3;person ^1");
        hall(1, "hall 3;person ^A keeps");
        hall(1, "hall 3;person a^1 keeps");
        hall(1, "hall 3;person a^B keeps");
        hall(3, P + "person ^a keeps");
        hall(3, P + "person ^a1 keeps");
        hall(3, P + "mute ^a keeps");
        hall(3, P + "point ^a judge");
        hall(3, P + "point b judge 0 rogue 0;mute ^b keeps 1");
        hall(3, P + "mute b keeps 1 costs 0;person ^b keeps 1");
        hall(0, P + "mute b keeps 1 costs 0;point aa judge 0 rogue 0;");
        hall(0, "hall 3;person first keeps 1 itches 0 for judge at 0;mute most keeps 1 costs 1;point total judge 1 rogue 1;");
        for (String own : ("hall person keeps itches for judge rogue nobody at hates point noise seat loud mute costs weigh "
                + "cough near hated asked minute number party or and not all min max beside").split(" ")) {
            hall(1, "hall 3;mute ^" + own + " keeps 1 costs 1;");
        }
    }

    private static void hatreds() {
        String two = P + "mute m keeps 1 costs 0;point p judge 0 rogue 0;";
        hall(3, two + "hates ^b a;");
        hall(3, two + "hates ^p a;");
        hall(3, two + "hates a ^p;");
        hall(3, two + "hates a ^a;");
        hall(3, two + "hates a ^b");
        hall(1, two + "hates a^;");
        hall(1, two + "hates ^judge a;");
        hall(1, two + "hates a ^judge;");
        hall(1, two + "hates abcdef^g a;");
        hall(1, two + "hates a abcdef^g;");
        hall(0, two + "hates a m;hates m a;");
        hall(3, two + "hates a m;hates m a;hates a ^m;");
        hall(3, two + "hates a m;hates m a;hates m ^a;");
        hall(3, "hall 3;hates ^a b;person a keeps 1 itches 0 for judge at 0;");
    }

    private static void otherStatements() {
        hall(2, P + "point p judge ^100");
        hall(2, P + "point p judge 99 rogue ^100");
        hall(1, P + "point p ^rogue 1 judge 1;");
        hall(0, P + "point p judge 99 rogue 0;");
        hall(2, P + "noise at ^100");
        hall(2, P + "noise at 99 seat ^9");
        hall(2, P + "noise at 99 seat 8 loud ^0");
        hall(2, P + "noise at 99 seat 8 loud ^10");
        hall(1, P + "noise ^seat 8 loud 10");
        hall(0, P + "noise at 0 seat 0 loud 1;noise at 99 seat 8 loud 9;");
        hall(2, P + "mute m keeps ^0");
        hall(2, P + "mute m keeps ^100");
        hall(2, P + "mute m keeps 99 costs ^100;");
        hall(1, P + "mute m keeps 99 ^itches 0;");
        hall(0, P + "mute m keeps 99 costs 99;mute n keeps 1 costs 0;");
    }

    private static void numbers() {
        hall(1, "hall 0000^3;");
        hall(1, "hall 1234^5;");
        hall(2, "hall ^9999;");
        hall(0, "hall 0003;");
        hall(1, P + "weigh 1234^5;");
        hall(0, P + "weigh 9999;");
        hall(1, P + "weigh keeps ^12345;");
    }

    private static void sums() {
        hall(1, P + "weigh ^;");
        hall(1, P + "weigh^");
        hall(1, P + "weigh ^-1;");
        hall(1, P + "weigh 1+^;");
        hall(1, P + "weigh 1+^+1;");
        hall(1, P + "weigh 1*^/1;");
        hall(1, P + "weigh ^number;");
        hall(1, P + "weigh ^party;");
        hall(1, P + "weigh ^beside 1;");
        hall(1, P + "weigh ^a;");
        hall(1, P + "weigh ^all;");
        hall(1, P + "weigh 1^<2;");
        hall(1, P + "weigh (1^;");
        hall(1, P + "weigh (^);");
        hall(1, P + "weigh 1^);");
        hall(1, P + "weigh min^;");
        hall(1, P + "weigh min ^1;");
        hall(1, P + "weigh min(1^);");
        hall(1, P + "weigh min(1,2^,3);");
        hall(1, P + "weigh max(1,^);");
        hall(1, P + "weigh ^[1];");
        hall(1, P + "weigh keeps^2;");
        hall(1, P + "weigh 2^keeps;");
        hall(0, P + "weigh keeps+itches-near*hated/asked+noise-seat*minute;cough min(1,max(2,(3)));");
        hall(0, P + "weigh ((((((1))))));");
        hall(4, P + "weigh ((((((^(1)))))));");
        hall(4, P + "weigh min(max(min(max(((^(1");
        hall(0, P + "weigh (1)+(((((2)))))+((((((3))))));");
        hall(4, P + "weigh (1)+((((((3))))))+((((((min^(3,4)))))));");
        hall(1, P + "weigh ((((((min^;");
        hall(4, P + "cough ((((((^(");
        hall(0, P + "weigh max(1,(((((2))))));");
        hall(4, P + "weigh max(1,(((((^(2)))))));");
        hall(4, P + "weigh max((((((^(2)))))),1);");
    }

    private static String many(int from, int to, String statement) {
        StringBuilder all = new StringBuilder();
        for (int k = from; k < to; k++) {
            all.append(statement.replace("#", String.valueOf((char) ('a' + k))).replace("%", String.valueOf(k)));
        }
        return all.toString();
    }

    private static void tooMany() {
        String people = "hall 9;" + many(0, 8, "person #k keeps 1 itches 0 for judge at %;");
        String person = "person x keeps 1 itches 0 for judge at 8;";
        String points = many(0, 4, "point #p judge 1 rogue 1;");
        String noises = many(0, 6, "noise at % seat 0 loud 1;");
        String mutes = many(0, 6, "mute #m keeps 1 costs 1;");
        String hatreds = many(0, 6, "hates ak #m;hates #m ak;");
        hall(0, people);
        hall(5, people + "^" + person);
        hall(5, people + " ^person");
        hall(5, people + points + "^point x judge 1 rogue 1;");
        hall(5, people + noises + "^noise at 1;");
        hall(5, people + mutes + "^mute;");
        hall(5, people + mutes + hatreds + "^hates ak bk;");
        hall(5, people + "weigh 1; ^weigh 1;");
        hall(5, people + "cough 1;weigh 1;^cough;");
        hall(0, people + points + noises + mutes + hatreds + "weigh 1;cough 1;");
        hall(1, people + points + noises + mutes + hatreds + "weigh 1;cough 1;^nothing");
        SilentCourt court = new SilentCourt();
        Due.is("all statements", Due.hall(court, people + points + noises + mutes + hatreds + "weigh 1;cough 1;"), 39);
    }

    private static void blanks() {
        hall(0, "\n hall\n3 ;\nperson\na\nkeeps 1 itches\n0 for judge at 0 ; weigh keeps +\n2*( 3 - near ) ;\n");
        hall(0, "hall 3;weigh keeps+2*(3-near)/min(1,2);");
        hall(1, "hall 3;^\rweigh 1;");
        hall(1, "hall 3;weigh 1^\0;");
        hall(1, "hall 3;weigh 1^" + (char) 160 + ";");
        hall(1, "hall 3;weigh 1^" + (char) 255 + ";");
        String full = " ".repeat(1593);
        hall(0, full + "hall 3;");
        hall(0, "hall 3;" + full);
        hall(1, "hall " + full + "^;x");
        hall(1, full + "^person");
        hall(1, full + "hall  3^");
        hall(1, " " + full + "hall 3^");
    }

    private static void questions() {
        question(1, "^");
        question(1, " ^");
        question(1, "^keeps");
        question(1, "^all");
        question(1, "^firsts all");
        question(1, "often^");
        question(1, "often ^or");
        question(1, "often^1<2");
        question(1, "often keeps^");
        question(1, "often keeps ^all");
        question(1, "often keeps<^");
        question(1, "often keeps<1^<2");
        question(1, "often all ^all");
        question(1, "often all and^");
        question(1, "often all or ^or all");
        question(1, "often [all^");
        question(1, "often [all^)");
        question(1, "often all^]");
        question(1, "often ^]");
        question(1, "often ^jan = 1");
        question(1, "often ^a = 1");
        question(1, "often (1^<2)");
        question(1, "often [1^]<2");
        question(1, "often not^");
        question(1, "often not^1<2");
        question(1, "total ^all");
        question(1, "total ^not 1");
        question(1, "total keeps^;");
        question(1, "total keeps^<1");
        question(1, "total beside^");
        question(1, "total beside^0");
        question(1, "total beside ^-");
        question(1, "total 1234^5");
        question(1, "most^");
        question(1, "least min(1^");
        question(1, "total keeps ^keeps");
        question(0, "first all");
        question(0, "last all and not all");
        question(0, "often 1<2 or [3>keeps and number=0]");
        question(0, " total\nnumber+party*beside(keeps)-beside beside 3/min(1,max(2,minute))\n");
        question(0, "most 9999");
        question(0, "least 0");
    }

    private static void questionsTooDeep() {
        question(0, "often not not not not not not all");
        question(4, "often not not not not not not ^not all");
        question(0, "often [[[[[[all]]]]]]");
        question(4, "often [[[[[[^[all]]]]]]]");
        question(4, "often [not [not [(1)<(^(1");
        question(0, "total beside beside beside beside beside beside 0");
        question(4, "total beside beside beside beside beside beside ^beside 0");
        question(4, "total beside beside beside beside beside beside ^(0)");
        question(4, "total beside beside beside beside beside beside min^(0");
        question(0, "total beside (beside (beside (0))) + beside (1)");
        question(0, "often not not not (1)<2 and not not not not not (1)<2");
        question(4, "often not not not not not (^(1)) < 2");
        question(4, "often not not not not not not ^(1) < 2");
        question(4, "often not not not not not not 1 < ^(1)");
        question(0, "often not not not not not not 1 < 1 or (1) < 2 and not [not all]");
    }

    private static void staying() {
        SilentCourt court = Due.court(P);
        Due.is("fault without", court.fault(0), 0);
        Due.is("place without", court.fault(1), -1);
        Due.is("fault of another", court.fault(2), -1);
        Due.is("fault of another", court.fault(-1), -1);
        court.point(0);
        court.minutes(2);
        Due.is("a wrong hall", Due.hall(court, "hall 3;person a keeps 0"), -1);
        Due.is("fault", court.fault(0), 2);
        Due.is("place", court.fault(1), 22);
        Due.is("the hall stays", court.has(0), 9);
        Due.is("the minute stays", court.has(6), 2);
        Due.is("the scale stays", court.scale(), 2);
        Due.is("acts stay", court.has(10), 1);
        Due.is("the tape goes", court.feed(0, 0, 0, 0, 0), 20);
        court.hall();
        Due.is("a question without fault", Due.ask(court, "often all"), 1);
        Due.is("fault of the latest", court.fault(0), 0);
        Due.is("place of the latest", court.fault(1), -1);
        Due.is("a wrong question", Due.ask(court, "often al"), SilentCourt.NOTHING);
        Due.is("fault of the latest", court.fault(0), 1);
        Due.is("place of the latest", court.fault(1), 6);
        SilentCourt empty = new SilentCourt();
        Due.hall(empty, "hall 1");
        Due.is("ask without a hall", Due.ask(empty, "often all"), SilentCourt.NOTHING);
        Due.is("which does nothing else", empty.fault(0), 2);
        Due.is("which does nothing else", empty.fault(1), 5);
        Due.is("but the tape goes", empty.feed(0, 0, 0, 0, 0), 20);
    }
}
