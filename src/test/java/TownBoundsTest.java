/** Each sentence that bounds the text of a TOWN, its FAULTS and the TAPE (Terms, promises 1 to 5), tested by itself. */
public final class TownBoundsTest {
    private static final Check CHECK = new Check("TownBoundsTest");
    private static final String HEAD = "skill s;order x asks s 1;parish p;";
    private static final int BLANKS = 0x20202020;

    public static void main(String[] args) {
        mostBytes();
        mostSkills();
        mostOrders();
        ordersAskSkillsToldAhead();
        traits();
        mostParishes();
        mostPersons();
        persons();
        mostUndoes();
        undoesOncePerPair();
        numbering();
        odds();
        onceToldLines();
        units();
        within();
        faultPlaces();
        linesCutShort();
        leastFault();
        tooManyOfASort();
        tooManyUnits();
        toldAlready();
        numbersThatCantBe();
        unknownNames();
        newObject();
        feed();
        end();
        town();
        failedTown();
        fault();
        CHECK.finish();
    }

    /** So many lines alike, but for a letter each, from a on. */
    private static String lines(int count, String line) {
        StringBuilder text = new StringBuilder();
        for (int i = 0; i < count; i++) {
            text.append(line.replace('?', (char) ('a' + i)));
        }
        return text.toString();
    }

    private static void mostBytes() {
        CHECK.says(0, "A TOWN is a text of at most 1,600 bytes (empty at first)");
        CHECK.dueTown("", 0);
        CHECK.due("the last byte of 1,600 is read", CHECK.dueTown(" ".repeat(1592) + "skill s;", 0).about(1), 1);
        CHECK.dueFault(" ".repeat(1595) + "skill", 2, 1600);
        CHECK.dueFault(" ".repeat(1599) + "$", 1, 1599);
        String draw = "draw " + "\n".repeat(1591) + "917";
        CHECK.due("a number at the end", CHECK.dueTown(draw + ";", 0).about(6), 917);
        CHECK.dueFault(draw, 2, 1599);
    }

    private static void mostSkills() {
        CHECK.says(0, "At most 4 SKILLS");
        CHECK.due("four", CHECK.dueTown(lines(4, "skill ?;"), 0).about(1), 4);
        CHECK.dueFault(lines(5, "skill ?;"), 2, 32);
    }

    private static void mostOrders() {
        CHECK.says(0, "8 ORDERS");
        String eight = "skill s;" + lines(8, "order ? asks s 1;");
        CHECK.due("eight", CHECK.dueTown(eight, 0).about(2), 8);
        CHECK.dueFault(eight + "order i asks s 1;", 2, eight.length());
    }

    private static void ordersAskSkillsToldAhead() {
        CHECK.says(0, "(a SKILL told ahead, its level 0 .. 20");
        CHECK.dueFault("order x asks s 1;skill s;", 5, 13);
        CHECK.dueFault("skill t;order x asks s 1;skill s;", 5, 21);
        FortyLetters x = CHECK.dueTown("skill s;order x asks s 0;order y asks s 20;", 0);
        CHECK.due("level 0", x.order(0, 1), 0);
        CHECK.due("level 20", x.order(1, 1), 20);
        CHECK.dueFault("skill s;order x asks s 21;", 4, 23);
        CHECK.dueFault("skill s;order x asks s 9999;", 4, 23);
    }

    private static void traits() {
        CHECK.says(0, "seal, weight 0 .. 9, 0 if not told; worth 1 .. 9, 1)");
        FortyLetters x = CHECK.dueTown("skill s;order a asks s 1 seal 0 weight 0 worth 1;order b asks s 1 seal 9 weight 9 worth 9;"
            + "order c asks s 1;order d asks s 1 weight 8;order e asks s 1 seal 7 worth 6;", 0);
        int[][] due = {{0, 0, 1}, {9, 9, 9}, {0, 0, 1}, {0, 8, 1}, {7, 0, 6}};
        for (int order = 0; order < due.length; order++) {
            for (int i = 0; i < 3; i++) {
                CHECK.due("order(" + order + ", " + (i + 2) + ")", x.order(order, i + 2), due[order][i]);
            }
        }
        CHECK.dueFault("skill s;order x asks s 1 seal 10;", 4, 30);
        CHECK.dueFault("skill s;order x asks s 1 weight 10;", 4, 32);
        CHECK.dueFault("skill s;order x asks s 1 worth 10;", 4, 31);
        CHECK.dueFault("skill s;order x asks s 1 worth 0;", 4, 31);
        // each at most once, in this order
        CHECK.dueFault("skill s;order x asks s 1 weight 1 seal 1;", 2, 34);
        CHECK.dueFault("skill s;order x asks s 1 seal 1 seal 1;", 2, 32);
    }

    private static void mostParishes() {
        CHECK.says(0, "3 PARISHES");
        CHECK.due("three", CHECK.dueTown(lines(3, "parish ?;"), 0).about(3), 3);
        CHECK.dueFault(lines(4, "parish ?;"), 2, 27);
    }

    private static void mostPersons() {
        CHECK.says(0, "6 PERSONS");
        String six = "parish p;" + lines(6, "person ? of p age 1;");
        CHECK.due("six", CHECK.dueTown(six, 6).about(0), 6);
        CHECK.dueFault(six + "person g of p age 1;", 2, six.length());
    }

    private static void persons() {
        CHECK.says(0, "(of a PARISH told ahead, age 0 .. 39; SKILLS told ahead, each once, 0 .. 20, 0 if not told)");
        CHECK.dueFault("person a of p age 1;parish p;", 5, 12);
        CHECK.dueFault("parish q;person a of p age 1;parish p;", 5, 21);
        FortyLetters x = CHECK.dueTown("skill s;skill t;parish p;person a of p age 0;person b of p age 39 t 20 s 0;", 2);
        CHECK.due("age 0", x.person(0, 0), 0);
        CHECK.due("age 39", x.person(1, 0), 39);
        CHECK.due("not told", x.level(0, 0) + x.level(0, 1), 0);
        CHECK.due("0", x.level(1, 0), 0);
        CHECK.due("20", x.level(1, 1), 20);
        CHECK.dueFault("parish p;person a of p age 40;", 4, 27);
        CHECK.dueFault(HEAD + "person a of p age 1 s 21;", 4, 56);
        CHECK.dueFault(HEAD + "person a of p age 1 t 1;skill t;", 5, 54);
        CHECK.dueFault(HEAD + "person a of p age 1 s 0 s 0;", 3, 58);
        String all = lines(4, "skill ?;") + "parish p;person a of p age 1 d 4 c 3 b 2 a 1";
        x = CHECK.dueTown(all + ";", 1);
        for (int skill = 0; skill < 4; skill++) {
            CHECK.due("all four", x.level(0, skill), skill + 1);
        }
        CHECK.dueFault(all + " c 3;", 3, all.length() + 1);
    }

    private static void mostUndoes() {
        CHECK.says(0, "8 undoes");
        String eight = "skill s;" + lines(8, "order ? asks s 1;") + lines(7, "undoes ? h;") + "undoes h a;";
        CHECK.due("eight", CHECK.dueTown(eight, 0).about(4), 8);
        CHECK.dueFault(eight + "undoes h b;", 2, eight.length());
    }

    private static void undoesOncePerPair() {
        CHECK.says(0, "(of two unlike ORDERS told ahead, each two once in this order)");
        String two = "skill s;order x asks s 1;order y asks s 1;";
        FortyLetters x = CHECK.dueTown(two + "undoes y x;undoes x y;", 0);
        CHECK.due("x undoes y", x.order(0, 5), 2);
        CHECK.due("y undoes x", x.order(1, 5), 1);
        CHECK.dueFault(two + "undoes y y;", 3, two.length() + 9);
        CHECK.dueFault(two + "undoes y x;undoes y x;", 3, two.length() + 20);
        CHECK.dueFault(two + "undoes y x;undoes x y;undoes y x;", 3, two.length() + 31);
        CHECK.dueFault(two + "undoes z x;order z asks s 1;", 5, two.length() + 7);
        CHECK.dueFault(two + "undoes x z;order z asks s 1;", 5, two.length() + 9);
    }

    private static void numbering() {
        CHECK.says(0, "numbered as told, each sort by itself");
        FortyLetters x = CHECK.dueTown("parish z;skill z;skill a;parish a;order z asks a 3;order a asks z 4;"
            + "person z of a age 5;person a of z age 6;undoes a z;odds z a 7;", 2);
        CHECK.due("the first ORDER asks for the other SKILL", x.order(0, 0), 1);
        CHECK.due("the other one for the first", x.order(1, 0), 0);
        CHECK.due("the first PERSON", x.person(0, 0), 5);
        CHECK.due("of the other PARISH", x.person(0, 3), 1);
        CHECK.due("the other PERSON", x.person(1, 0), 6);
        CHECK.due("of the first PARISH", x.person(1, 3), 0);
        CHECK.due("the other ORDER undoes the first", x.order(1, 5), 1);
        CHECK.due("the first PARISH has odds of the other ORDER", x.share(0, 1), 7);
    }

    private static void odds() {
        CHECK.says(0, "odds (a PARISH, an ORDER, both told ahead, each with each once; 1 .. 9)");
        String two = HEAD + "order y asks s 1;parish q;";
        FortyLetters x = CHECK.dueTown(two + "odds p x 1;odds q x 9;odds q y 2;odds p y 3;", 0);
        CHECK.due("1", x.share(0, 0), 1);
        CHECK.due("9", x.share(1, 0), 9);
        CHECK.due("each with each", x.share(0, 1) * 10 + x.share(1, 1), 32);
        CHECK.dueFault(two + "odds p x 0;", 4, two.length() + 9);
        CHECK.dueFault(two + "odds p x 10;", 4, two.length() + 9);
        CHECK.dueFault(two + "odds p x 1;odds p x 1;", 3, two.length() + 18);
        CHECK.dueFault("odds p x 1;parish p;skill s;order x asks s 1;", 5, 5);
        CHECK.dueFault("parish p;odds p x 1;skill s;order x asks s 1;", 5, 16);
        String all = "skill s;" + lines(8, "order ? asks s 1;") + lines(3, "parish ?;") + lines(8, "odds a ? 1;odds b ? 2;odds c ? 3;");
        x = CHECK.dueTown(all, 0);
        for (int order = 0; order < 8; order++) {
            CHECK.due("all 24", x.share(0, order) * 100 + x.share(1, order) * 10 + x.share(2, order), 123);
        }
    }

    private static void onceToldLines() {
        CHECK.says(0, "teach, open (the age, 1 .. 60; 40), draw (0 .. 999; 0) once each");
        FortyLetters x = CHECK.dueTown("draw 0;teach 1;open 1;", 0);
        CHECK.due("open 1", x.about(7), 1);
        CHECK.due("draw 0", x.about(6), 0);
        x = CHECK.dueTown("open 60;draw 999;", 0);
        CHECK.due("open 60", x.about(7), 60);
        CHECK.due("draw 999", x.about(6), 999);
        x = CHECK.dueTown("skill s;", 0);
        CHECK.due("open, not told", x.about(7), 40);
        CHECK.due("draw, not told", x.about(6), 0);
        CHECK.dueFault("open 0;", 4, 5);
        CHECK.dueFault("open 61;", 4, 5);
        CHECK.dueFault("draw 1000;", 4, 5);
        CHECK.dueFault("open 40;draw 0;open 40;", 2, 15);
        CHECK.dueFault("draw 0;open 40;draw 0;", 2, 15);
        CHECK.dueFault("teach 1;open 40;teach 1;", 2, 16);
    }

    private static void units() {
        CHECK.says(0, "30 in one e (what is within brackets counts in it)");
        CHECK.due("none is told", CHECK.dueTown("open 7;", 0).about(13), 0);
        CHECK.due("one", CHECK.dueTown("teach level;", 0).about(13), 1);
        CHECK.due("30", CHECK.dueTown("teach 1" + "+1".repeat(29) + ";", 0).about(13), 30);
        CHECK.dueFault("teach 1" + "+1".repeat(30) + ";", 2, 66);
        CHECK.due("30 by or", CHECK.dueTown("teach 1" + " or 1".repeat(29) + ";", 0).about(13), 30);
        CHECK.dueFault("teach 1" + " or 1".repeat(30) + ";", 2, 156);
        CHECK.due("30 by and", CHECK.dueTown("teach 1" + " and 1".repeat(29) + ";", 0).about(13), 30);
        CHECK.dueFault("teach 1" + " and 1".repeat(30) + ";", 2, 186);
        CHECK.due("30 by *", CHECK.dueTown("teach 1" + "*1".repeat(29) + ";", 0).about(13), 30);
        CHECK.dueFault("teach 1" + "*1".repeat(30) + ";", 2, 66);
        CHECK.due("15 brackets, one unit in each", CHECK.dueTown("teach (1)" + "+(1)".repeat(14) + ";", 0).about(13), 30);
        CHECK.dueFault("teach (1)" + "+(1)".repeat(14) + "+1;", 2, 66);
        CHECK.dueFault("teach 1+(1" + "+1".repeat(28) + ");", 2, 65);
    }

    private static void within() {
        CHECK.says(0, "(a unit ( e ), or a one behind not, within 6 others at most)");
        CHECK.dueTown("teach " + "(".repeat(7) + "1" + ")".repeat(7) + ";", 0);
        CHECK.dueFault("teach " + "(".repeat(8) + "1" + ")".repeat(8) + ";", 2, 13);
        CHECK.dueTown("teach " + "not ".repeat(7) + "1;", 0);
        CHECK.dueFault("teach " + "not ".repeat(8) + "1;", 2, 34);
        CHECK.dueTown("teach " + "(not ".repeat(3) + "(1))));", 0);
        CHECK.dueFault("teach " + "(not ".repeat(3) + "((1)))));", 2, 22);
        CHECK.dueTown("teach " + "not(".repeat(3) + "not 1)));", 0);
        CHECK.dueFault("teach " + "not(".repeat(3) + "not not 1)));", 2, 22);
        // what stands beside another is not within it
        CHECK.dueTown("teach " + "((((((1))))))+".repeat(3) + "1;", 0);
        CHECK.dueTown("teach " + "not not not not not not not 1 or ".repeat(9) + "1;", 0);
        CHECK.dueTown("teach not not not not not not (1)<2;", 0);
        // all that a not has behind it is within it, on both sides of a relation
        CHECK.dueTown("teach not 1+((((((1))))))<((((((1))))));", 0);
        CHECK.dueFault("teach not 1+((((((1))))))<(((((((1)))))));", 2, 32);
        CHECK.dueFault("teach not 1+(((((((1)))))));", 2, 18);
        CHECK.dueFault("teach 1 and not 2*(((((((1)))))));", 2, 24);
        CHECK.dueTown("teach not 1 and (((((((1)))))));", 0);
    }

    private static void faultPlaces() {
        CHECK.says(0, "FAULTS, the first by its place (bytes from 0; the end: the text's length)");
        CHECK.dueFault(";", 2, 0);
        CHECK.dueFault(" ;", 2, 1);
        CHECK.dueFault("skill", 2, 5);
        CHECK.dueFault("skill s", 2, 7);
        CHECK.dueFault("skill s \n ", 2, 10);
        CHECK.dueFault("teach 1", 2, 7);
        CHECK.dueFault("teach (1", 2, 8);
        CHECK.dueFault("skill s;skill s $", 3, 14);
        CHECK.dueFault("open 0 $ skill", 4, 5);
        CHECK.dueFault("open 61;open 1;", 4, 5);
        CHECK.dueFault("$;open 0;", 1, 0);
        CHECK.dueFault(lines(4, "skill ?;") + "skill $", 2, 32);
        CHECK.dueFault("order x asks s 99;", 5, 13);
    }

    /** A text that ends, or goes on with a new line, ahead of what must come. */
    private static void linesCutShort() {
        CHECK.says(0, "2 one that can't stand there");
        String all = "skill s;skill t;order x asks s 1;order y asks s 1;parish p;parish q;person a of p age 1;";
        String[] lines = {"skill u ;", "order z asks s 1 seal 2 weight 3 worth 4 ;", "parish r ;", "odds p x 1 ;", "person b of p age 1 s 2 t 3 ;",
            "undoes x y ;", "open 1 ;", "draw 1 ;",
            "teach not level + 1 * ( 2 - 3 ) / 4 % 5 < 6 and 7 or age = year and which > 8 or not ( not 9 and ( 1 or 0 ) ) ;"};
        for (String line : lines) {
            String[] tokens = line.split(" ");
            StringBuilder head = new StringBuilder(all);
            for (int i = 0; i < tokens.length; i++) {
                if (i > 0) {
                    CHECK.dueFault(head.toString(), 2, head.length());
                    CHECK.dueFault(head + "skill v;", 2, head.length());
                    CHECK.dueFault(head + "person c of p age 1;", 2, head.length());
                    CHECK.dueFault(head + "draw 1;", 2, head.length());
                    CHECK.dueFault(head + "$", 1, head.length());
                }
                head.append(tokens[i]).append(" ");
            }
            CHECK.dueTown(head.toString(), line.startsWith("person") ? 2 : 1);
        }
        String[] halves = {"", "1+", "1-", "1*", "1/", "1%", "1<", "1>", "1=", "1 and ", "1 or ", "not ", "1 or not ", "2 and not ", "3<4*"};
        for (String half : halves) {
            CHECK.dueFault("teach " + half + ";", 2, 6 + half.length());
            CHECK.dueFault("teach (" + half + ");", 2, 7 + half.length());
            CHECK.dueFault("teach " + half + ")", 2, 6 + half.length());
            CHECK.dueFault("teach (" + half + ";", 2, 7 + half.length());
        }
    }

    private static void leastFault() {
        CHECK.says(0, "at one place the least");
        // no TOKEN, where another one could not stand, be, or have a NAME either
        CHECK.dueFault("skill s 12345", 1, 8);
        CHECK.dueFault("skill s;skill abcdefghi;", 1, 14);
        CHECK.dueFault("open 99999;", 1, 5);
        CHECK.dueFault("parish p;odds p abcdefghi 1;", 1, 16);
        CHECK.dueFault("teach 1" + "+1".repeat(29) + "+12345;", 1, 66);
        CHECK.dueFault("teach " + "not ".repeat(7) + "$", 1, 34);
        // a line that can't stand, and its NAME told already, too
        CHECK.dueFault(lines(4, "skill ?;") + "skill a;", 2, 32);
    }

    private static void tooManyOfASort() {
        CHECK.says(0, "one of a sort too many or a second time: at the line's first word");
        CHECK.dueFault(lines(4, "skill ?;") + "\n skill e;", 2, 34);
        CHECK.dueFault(lines(3, "parish ?;") + " parish d;", 2, 28);
        CHECK.dueFault(lines(3, "parish ?;") + "parish", 2, 27);
        String orders = "skill s;" + lines(8, "order ? asks s 1;");
        CHECK.dueFault(orders + " order 7", 2, orders.length() + 1);
        String people = "parish p;" + lines(6, "person ? of p age 1;");
        CHECK.dueFault(people + " person a of", 2, people.length() + 1);
        String pairs = orders + lines(7, "undoes ? h;") + "undoes h a;";
        CHECK.dueFault(pairs + " undoes a a;", 2, pairs.length() + 1);
        CHECK.dueFault("open 1; open 0;", 2, 8);
        CHECK.dueFault("draw 1; draw x;", 2, 8);
        CHECK.dueFault("teach 1; teach;", 2, 9);
    }

    private static void tooManyUnits() {
        CHECK.says(0, "a unit too many, what is within 7 others: at its first TOKEN, or the not");
        String thirty = "teach 1" + "+1".repeat(29);
        CHECK.dueFault(thirty + "+ 2;", 2, 67);
        CHECK.dueFault(thirty + "* level;", 2, 67);
        CHECK.dueFault(thirty + "< (2);", 2, 67);
        CHECK.dueFault(thirty + " or not 2;", 2, 73);
        CHECK.dueFault("teach " + "( ".repeat(8), 2, 20);
        CHECK.dueFault("teach " + "not ".repeat(7) + " not", 2, 35);
        CHECK.dueFault("teach " + "not ".repeat(7) + " (1);", 2, 35);
        CHECK.dueFault("teach " + "(".repeat(7) + " not 1", 2, 14);
    }

    private static void toldAlready() {
        CHECK.says(0, "3 a NAME told already (of its sort; a SKILL of a PERSON a second time), a PARISH with an ORDER told already, "
            + "two ORDERS of undoes that are alike or told already (each at the second NAME)");
        CHECK.dueFault("skill s;skill t; skill  s;", 3, 24);
        CHECK.dueFault(HEAD + "order x", 3, 40);
        CHECK.dueFault("parish p;parish q;parish p", 3, 25);
        CHECK.dueFault("parish p;person a of p age 1;person b of p age 1;person a", 3, 56);
        CHECK.dueTown("skill a;order a asks a 1;parish a;person a of a age 1 a 1;", 1);
        CHECK.dueFault("skill s;skill t;parish p;person a of p age 1 s 1 t 1 s", 3, 53);
        CHECK.dueTown("skill s;parish p;person a of p age 1 s 1;person b of p age 1 s 1;", 2);
        CHECK.dueFault(HEAD + "odds p x 1;odds p  x 2;", 3, 53);
        String two = "skill s;order x asks s 1;order y asks s 1;";
        CHECK.dueFault(two + "undoes x  x;", 3, two.length() + 10);
        CHECK.dueFault(two + "undoes x y;undoes x  y;", 3, two.length() + 21);
    }

    private static void numbersThatCantBe() {
        CHECK.says(0, "4 a number that can't be");
        String[] heads = {"skill s;order x asks s 21", "skill s;order x asks s 1 seal 10", "skill s;order x asks s 1 weight 10",
            "skill s;order x asks s 1 worth 0", "skill s;order x asks s 1 worth 10", HEAD + "odds p x 0", HEAD + "odds p x 10",
            HEAD + "person a of p age 40", HEAD + "person a of p age 1 s 21", "open 0", "open 61", "draw 1000"};
        for (String head : heads) {
            CHECK.dueFault(head, 4, head.lastIndexOf(' ') + 1);
            CHECK.dueFault(head + ";", 4, head.lastIndexOf(' ') + 1);
        }
    }

    private static void unknownNames() {
        CHECK.says(0, "5 a NAME that nothing of the sort has.");
        String all = "skill a;order b asks a 1;parish c;person d of c age 1;";
        String[] heads = {"order x asks b", "order x asks c", "order x asks d", "odds a", "odds b", "odds d", "odds c a", "odds c c",
            "odds c d", "person x of a", "person x of b", "person x of d", "person x of c age 1 b", "person x of c age 1 c",
            "person x of c age 1 d", "undoes a", "undoes c", "undoes d", "undoes b a", "undoes b c", "undoes b d", "undoes b x"};
        for (String head : heads) {
            CHECK.dueFault(all + head, 5, all.length() + head.lastIndexOf(' ') + 1);
        }
    }

    private static void newObject() {
        CHECK.says(1, "An empty TOWN.");
        FortyLetters x = new FortyLetters();
        for (int what = 0; what <= 14; what++) {
            CHECK.due("about(" + what + ")", x.about(what), what == 7 ? 40 : 0);
        }
        for (int state = 0; state <= 4; state++) {
            CHECK.due("many(" + state + ")", x.many(state), 0);
        }
        CHECK.due("person", x.person(0, 0), -2);
        CHECK.due("level", x.level(0, 0), -1);
        CHECK.due("order", x.order(0, 0), -1);
        CHECK.due("share", x.share(0, 0), -1);
        CHECK.due("done", x.done(), 0);
        CHECK.due("prepare", x.prepare(0, -1), -2);
        CHECK.due("steam", x.steam(0), -2);
        CHECK.due("swap", x.swap(0, 1), false);
        CHECK.due("forge", x.forge(0, 0), -2);
        CHECK.due("opens", x.opens(0), -1);
        CHECK.due("undo", x.undo(), false);
        CHECK.due("redo", x.redo(), false);
        CHECK.due("odds", x.odds(0, 0), -1);
        CHECK.due("life", x.life(0), -1);
        CHECK.due("hope", x.hope(0, 0), -1);
        CHECK.due("able", x.able(0), -1);
        CHECK.due("ready", x.ready(0, 0), -1);
        CHECK.due("lost", x.lost(0), -1);
        CHECK.due("will", x.will(0, 0), -1);
        CHECK.due("first", x.first(0), -1);
        CHECK.due("rings", x.rings(), 0);
        CHECK.due("opening of none", x.opening(0), 0);
        CHECK.due("opening", x.opening(1), -1);
        CHECK.due("law", x.law(0, 1), -100);
        CHECK.due("lies", x.lies(0), -2);
        CHECK.due("sign", x.sign(0, 0, 0, true), -1);
        CHECK.due("untell", x.untell(0), false);
        CHECK.due("meant", x.meant(0, 0), -1);
        CHECK.due("likely", x.likely(0, 0), -1);
        CHECK.due("ask", x.ask(0, 0, 0), -1);
        CHECK.due("back", x.back(0), -1);
        CHECK.due("image", x.image(0), 0);
        CHECK.due("year", x.year(), 0);
    }

    private static void feed() {
        CHECK.says(2, "Twenty bytes come behind those on the TAPE, of each number the highest first: how many there are");
        FortyLetters x = new FortyLetters();
        CHECK.due("feed", x.feed(0x6f70656e, 0x20000000, 0, 0, 0), 20);
        x.end(5);
        CHECK.due("behind those", x.feed(0x35393b64, 0x72617720, 0x3939393b, 0, 0x24), 25);
        x.end(17);
        CHECK.due("town", x.town(), 0);
        CHECK.due("open 59", x.about(7), 59);
        CHECK.due("draw 999", x.about(6), 999);
        x.feed(BLANKS, BLANKS, BLANKS, BLANKS, 0x202020ff);
        CHECK.due("town", x.town(), -1);
        CHECK.due("the lowest of the last number comes last", x.fault(1), 19);
        x.feed(-1, BLANKS, BLANKS, BLANKS, BLANKS);
        CHECK.due("town", x.town(), -1);
        CHECK.due("a byte of 255 is no TOKEN", x.fault(0), 1);
        CHECK.due("at 0", x.fault(1), 0);

        CHECK.says(2, "NONE, and nothing comes, if there would be more than 1,600.");
        x = new FortyLetters();
        for (int fed = 20; fed <= 1600; fed += 20) {
            CHECK.due("feed", x.feed(BLANKS, BLANKS, BLANKS, BLANKS, BLANKS), fed);
        }
        CHECK.due("feed on a full TAPE", x.feed(0, 0, 0, 0, 0), -1);
        CHECK.due("bytes", x.about(12), 1600);
        CHECK.due("end", x.end(1581), 1581);
        CHECK.due("1,601 are too many", x.feed(0, 0, 0, 0, 0), -1);
        CHECK.due("bytes", x.about(12), 1581);
        CHECK.due("nothing came", x.end(1582), -1);
        CHECK.due("end", x.end(1580), 1580);
        CHECK.due("1,600 are not", x.feed(BLANKS, BLANKS, BLANKS, BLANKS, BLANKS), 1600);
        CHECK.due("what was refused is nowhere", x.town(), 0);
        CHECK.due("the TAPE can be fed anew", x.feed(BLANKS, BLANKS, BLANKS, BLANKS, BLANKS), 20);
    }

    private static void end() {
        CHECK.says(3, "The TAPE has its first n bytes: n");
        FortyLetters x = new FortyLetters();
        Check.feed(x, "open 7;open 9;draw 12;");
        CHECK.due("all", x.end(22), 22);
        CHECK.due("fewer", x.end(7), 7);
        CHECK.due("bytes", x.about(12), 7);
        CHECK.due("town of these", x.town(), 0);
        CHECK.due("open 7", x.about(7), 7);
        String[] cut = {"open 7|5;", "open 7|a;", "open 7|;", "skill s|t;", "skill s|;", "teach (1|+1);", "teach 1+|2;", "skil|l s;"};
        for (String text : cut) {
            int n = text.indexOf('|');
            Check.feed(x, text.replace("|", ""));
            CHECK.due("end", x.end(n), n);
            CHECK.due("town of " + text, x.town(), -1);
            CHECK.due("what is cut off is not read", x.fault(1), text.startsWith("skil|") ? 0 : n);
            CHECK.due("nor is it no TOKEN", x.fault(0), 2);
        }
        Check.feed(x, "open 9;");
        CHECK.due("none", x.end(0), 0);
        CHECK.due("town of none", x.town(), 0);
        CHECK.due("open is not told", x.about(7), 40);

        CHECK.says(3, "NONE, doing nothing, if it has not so many, or n is below 0.");
        CHECK.due("one of an empty TAPE", x.end(1), -1);
        CHECK.due("none of an empty TAPE", x.end(0), 0);
        Check.feed(x, "open 7;");
        CHECK.due("one too many", x.end(8), -1);
        CHECK.due("below 0", x.end(-1), -1);
        CHECK.due("far below", x.end(Integer.MIN_VALUE), -1);
        CHECK.due("far above", x.end(Integer.MAX_VALUE), -1);
        CHECK.due("bytes", x.about(12), 7);
        CHECK.due("cut bytes come back no more", x.end(6), 6);
        CHECK.due("one too many again", x.end(7), -1);
    }

    /** A town in which each kind of what a TOWN empties has something. */
    private static FortyLetters lived() {
        FortyLetters x = Check.town(HEAD + "odds p x 1;person a of p age 1 s 2;person b of p age 2;teach 2;open 50;draw 5;");
        x.prepare(0, 0);
        x.year();
        x.steam(1);
        x.undo();
        x.sign(0, 0, 0, true);
        x.later(9);
        x.rings();
        for (int box = 0; box < 3; box++) {
            x.image(box);
        }
        return x;
    }

    private static void town() {
        CHECK.says(4, "The TAPE (empty then) is the TOWN (all as told, LETTERS drawn, year 0, no ACTS are kept, SIGNS are none, nothing lies "
            + "there, BOXES are empty then; the TIME stays): how many PERSONS");
        FortyLetters x = lived();
        Check.feed(x, HEAD + "odds p x 1;person a of p age 1 s 2;person b of p age 2;person c of p age 3;draw 8;");
        CHECK.due("town", x.town(), 3);
        CHECK.due("the TAPE", x.about(12), 0);
        CHECK.due("his age", x.person(0, 0), 1);
        CHECK.due("his level", x.level(0, 0), 2);
        CHECK.due("he prepares none", x.person(0, 2), -1);
        CHECK.due("LETTERS are SEALED", x.many(0), 3);
        CHECK.due("LETTERS are drawn", x.person(2, 4), 0);
        CHECK.due("year 0", x.about(5), 0);
        CHECK.due("the SEED, from draw on", x.about(6), ((8 * 137 + 71) % 1000 * 137 + 71) % 1000 * 137 % 1000 + 71);
        CHECK.due("open is not told", x.about(7), 40);
        CHECK.due("no ACTS to undo", x.about(8), 0);
        CHECK.due("undo", x.undo(), false);
        CHECK.due("no ACTS to redo", x.about(9), 0);
        CHECK.due("redo", x.redo(), false);
        CHECK.due("SIGNS are none", x.about(10), 0);
        CHECK.due("untell", x.untell(0), false);
        CHECK.due("the TIME", x.about(11), 9);
        CHECK.due("units", x.about(13), 0);
        CHECK.due("nothing lies there", x.about(14), 0);
        CHECK.due("lies", x.lies(0), -2);
        for (int box = 0; box < 3; box++) {
            CHECK.due("BOX " + box, x.back(box), -1);
        }
        CHECK.due("a second town, of nothing", x.town(), 0);
        CHECK.due("none has a LETTER", x.many(0), 0);
        nothingIsLeftOver();
    }

    /** Neither of an earlier TOWN, nor of a text that had a FAULT. */
    private static void nothingIsLeftOver() {
        String all = "skill s;skill t;order x asks t 5 seal 1 weight 2 worth 3;order y asks s 1;parish p;odds p x 3;odds p y 4;"
            + "person a of p age 7 s 5 t 6;undoes x y;undoes y x;teach 2+3;open 8;draw 8;";
        String bare = "skill s;skill t;order x asks s 0;order y asks s 0;parish p;person a of p age 1;person b of p age 1;";
        FortyLetters x = new FortyLetters();
        for (int faults = 0; faults < 4; faults++) {
            Check.feed(x, all);
            x.town();
            x.year();
            CHECK.due("it was OPENED", x.person(0, 1), 2);
            for (int i = 0; i < faults; i++) {
                Check.feed(x, all + "$");
                x.town();
            }
            Check.feed(x, bare);
            CHECK.due("town", x.town(), 2);
            CHECK.due("both SEALED", x.many(0), 2);
            CHECK.due("levels", x.level(0, 0) + x.level(0, 1), 0);
            CHECK.due("odds", x.share(0, 0) + x.share(0, 1), 0);
            CHECK.due("undoes", x.order(0, 5) + x.order(1, 5) + x.about(4), 0);
            CHECK.due("traits", x.order(0, 0) + x.order(0, 1) + x.order(0, 2) + x.order(0, 3) + x.order(0, 4), 1);
            CHECK.due("units, open", x.about(13) * 100 + x.about(7), 40);
            CHECK.due("the SEED, of draw 0", x.about(6), 71 * 137 % 1000 + 71);
            CHECK.due("BLANK", x.person(0, 4), -1);
            x.prepare(0, 0);
            CHECK.due("odds, without any", x.odds(0, 0), 1);
            CHECK.due("will", x.will(0, 38), 0);
            x.year();
            CHECK.due("teach, not told", x.level(0, 0), 1);
            x.forge(0, 0);
            x.forge(1, 1);
            CHECK.due("x is DONE", x.opens(0), 2);
            CHECK.due("and undoes none", x.opens(1), 2);
        }
    }

    private static void failedTown() {
        CHECK.says(4, "NONE: a FAULT (the TAPE is empty then, too; all else stays).");
        FortyLetters x = lived();
        int[] due = new int[15];
        for (int what = 0; what <= 14; what++) {
            due[what] = x.about(what);
        }
        Check.feed(x, "skill t;skill u;order y asks u 9 seal 3;order z asks t 3;parish q;parish r;odds q y 9;person c of r age 30 u 4;"
            + "undoes y z;teach 9+9;open 9;draw 7");
        CHECK.due("town", x.town(), -1);
        for (int what = 0; what <= 14; what++) {
            CHECK.due("about(" + what + ")", x.about(what), due[what]);
        }
        CHECK.due("his age", x.person(0, 0), 2);
        CHECK.due("his level", x.level(0, 0), 4);
        CHECK.due("he prepares", x.person(0, 2), 0);
        CHECK.due("the ORDER", x.order(0, 1) * 10 + x.order(0, 2), 10);
        CHECK.due("the odds", x.share(0, 0), 1);
        CHECK.due("what lies there", x.lies(1), 1);
        CHECK.due("the SIGN is still one", x.untell(0), true);
        CHECK.due("redo", x.redo(), true);
        CHECK.due("STEAMED again", x.person(1, 1), 1);
        CHECK.due("a BOX", x.back(2), 1);
        CHECK.due("a YEAR", x.year(), 0);
        CHECK.due("teaches 2", x.level(0, 0), 6);
    }

    private static void fault() {
        CHECK.says(5, "Of the latest town() what 0: its FAULT (0: without; ahead of any, too), 1: its place (NONE).");
        FortyLetters x = new FortyLetters();
        CHECK.due("fault(0) ahead of any", x.fault(0), 0);
        CHECK.due("fault(1) ahead of any", x.fault(1), -1);
        Check.feed(x, "open 61;");
        CHECK.due("fault(0) ahead of town()", x.fault(0), 0);
        x.town();
        CHECK.due("fault(0)", x.fault(0), 4);
        CHECK.due("fault(1)", x.fault(1), 5);
        Check.feed(x, "$");
        CHECK.due("fault(0) of the latest still", x.fault(0), 4);
        x.town();
        CHECK.due("fault(0) of another", x.fault(0), 1);
        CHECK.due("fault(1) of another", x.fault(1), 0);
        Check.feed(x, "open 60;");
        x.town();
        CHECK.due("fault(0) without", x.fault(0), 0);
        CHECK.due("fault(1) without", x.fault(1), -1);

        CHECK.says(5, "NONE for another what.");
        for (int i = 0; i < 2; i++) {
            CHECK.due("fault(2)", x.fault(2), -1);
            CHECK.due("fault(-1)", x.fault(-1), -1);
            CHECK.due("fault(MAX)", x.fault(Integer.MAX_VALUE), -1);
            CHECK.due("fault(MIN)", x.fault(Integer.MIN_VALUE), -1);
            Check.feed(x, "$");
            x.town();
        }
    }
}
