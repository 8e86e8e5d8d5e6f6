/** Promises 1 to 5: the new object, the TAPE, the text of a TOWN and its FAULTS. */
public final class TextTest {
    private static final Check CHECK = new Check("TextTest");
    private static final String HEAD = "skill s;order x asks s 1;parish p;";

    public static void main(String[] args) {
        newObject();
        feedAndEnd();
        townAnswers();
        failedTownLeavesAll();
        nothingIsLeftOver();
        tokens();
        places();
        tooMany();
        toldAlready();
        numbers();
        unknownNames();
        formulas();
        CHECK.finish();
    }

    private static void newObject() {
        CHECK.due("NONE", FortyLetters.NONE, -1);
        FortyLetters x = new FortyLetters();
        for (int what = 0; what <= 14; what++) {
            CHECK.due("new about(" + what + ")", x.about(what), what == 7 ? 40 : 0);
        }
        CHECK.due("new person", x.person(0, 0), -2);
        CHECK.due("new level", x.level(0, 0), -1);
        CHECK.due("new order", x.order(0, 0), -1);
        CHECK.due("new share", x.share(0, 0), -1);
        CHECK.due("new many", x.many(0), 0);
        CHECK.due("new lies", x.lies(0), -2);
        CHECK.due("new undo", x.undo(), false);
        CHECK.due("new back", x.back(0), -1);
        CHECK.due("new image", x.image(0), 0);
        CHECK.due("new life", x.life(0), -1);
        CHECK.due("new year", x.year(), 0);
    }

    private static void feedAndEnd() {
        FortyLetters x = new FortyLetters();
        CHECK.due("end ahead of bytes", x.end(1), -1);
        CHECK.due("end(0) of none", x.end(0), 0);
        for (int fed = 20; fed <= 1600; fed += 20) {
            CHECK.due("feed", x.feed(0x20202020, 0x20202020, 0x20202020, 0x20202020, 0x20202020), fed);
        }
        CHECK.due("feed beyond 1600", x.feed(0, 0, 0, 0, 0), -1);
        CHECK.due("nothing came", x.about(12), 1600);
        CHECK.due("end(1601)", x.end(1601), -1);
        CHECK.due("end(-1)", x.end(-1), -1);
        CHECK.due("end(1600)", x.end(1600), 1600);
        CHECK.due("end(1581)", x.end(1581), 1581);
        CHECK.due("feed to 1601", x.feed(0, 0, 0, 0, 0), -1);
        CHECK.due("end(1580)", x.end(1580), 1580);
        CHECK.due("feed to 1600", x.feed(0x20202020, 0x20202020, 0x20202020, 0x20202020, 0x2020203b), 1600);
        CHECK.due("town of blanks and ;", x.town(), -1);
        CHECK.due("its FAULT", x.fault(0), 2);
        CHECK.due("its place: the last byte", x.fault(1), 1599);
        x.feed(0x736b696c, 0x6c20733b, 0x80818283, -1, 0);
        x.end(8);
        CHECK.due("each number the highest byte first", x.town(), 0);
        CHECK.due("a SKILL", x.about(1), 1);
    }

    private static void townAnswers() {
        FortyLetters x = new FortyLetters();
        CHECK.due("fault(0) ahead of any", x.fault(0), 0);
        CHECK.due("fault(1) ahead of any", x.fault(1), -1);
        CHECK.due("fault(2)", x.fault(2), -1);
        CHECK.due("fault(-1)", x.fault(-1), -1);
        x.later(7);
        x.year();
        x.image(1);
        Check.feed(x, HEAD + "odds p x 1;person a of p age 1;person b of p age 2;");
        CHECK.due("town of two", x.town(), 2);
        CHECK.due("the TAPE is empty", x.about(12), 0);
        CHECK.due("year 0", x.about(5), 0);
        CHECK.due("no ACTS", x.about(8), 0);
        CHECK.due("BOXES are empty", x.back(1), -1);
        CHECK.due("the TIME stays", x.about(11), 7);
        CHECK.due("fault(0)", x.fault(0), 0);
        CHECK.due("fault(1)", x.fault(1), -1);
        x.rings();
        x.sign(0, 0, 0, true);
        x.steam(0);
        x.undo();
        x.image(2);
        CHECK.due("an empty text is a TOWN", x.town(), 0);
        CHECK.due("nothing lies there", x.about(14), 0);
        CHECK.due("SIGNS are none", x.about(10), 0);
        CHECK.due("nothing to redo", x.about(9), 0);
        CHECK.due("BOXES are empty again", x.back(2), -1);
        CHECK.due("no ORDERS", x.about(2), 0);
    }

    /** What was read once, into a TOWN or up to a FAULT, is in no later TOWN. */
    private static void nothingIsLeftOver() {
        FortyLetters x = new FortyLetters();
        String all = "skill s;skill t;order x asks t 5 seal 1 weight 2 worth 3;order y asks s 1;parish p;odds p x 3;odds p y 4;"
            + "person a of p age 7 s 5 t 6;undoes x y;undoes y x;teach 2+3;open 7;draw 8;";
        String bare = "skill s;skill t;order x asks s 0;order y asks s 0;parish p;person a of p age 1;person b of p age 1;";
        for (int i = 0; i < 4; i++) {
            Check.feed(x, all);
            CHECK.due("town of all", x.town(), 1);
            CHECK.due("its odds", x.share(0, 1), 4);
            for (int j = 0; j < i; j++) {
                Check.feed(x, all + "$");
                CHECK.due("a FAULT", x.town(), -1);
            }
            Check.feed(x, bare);
            CHECK.due("town of less", x.town(), 2);
            CHECK.due("odds", x.share(0, 0) + x.share(0, 1), 0);
            CHECK.due("undoes", x.order(0, 5) + x.order(1, 5), 0);
            CHECK.due("how many undoes", x.about(4), 0);
            CHECK.due("traits", x.order(0, 0) + x.order(0, 1) + x.order(0, 2) + x.order(0, 3) + x.order(0, 4), 1);
            CHECK.due("levels", x.level(0, 0) + x.level(0, 1), 0);
            CHECK.due("units", x.about(13), 0);
            CHECK.due("open", x.about(7), 40);
            CHECK.due("the SEED", x.about(6), 798);
            CHECK.due("BLANK", x.person(0, 4), -1);
            CHECK.due("SEALED", x.person(0, 1), 0);
            x.prepare(0, 0);
            x.year();
            CHECK.due("teach", x.level(0, 0), 1);
            x.forge(0, 0);
            x.forge(1, 1);
            CHECK.due("x is DONE", x.opens(0), 2);
            CHECK.due("none is undone", x.opens(1), 2);
        }
    }

    private static void failedTownLeavesAll() {
        FortyLetters x = Check.town(HEAD + "odds p x 9;person a of p age 1 s 2;teach 3;open 7;draw 5;");
        x.prepare(0, 0);
        x.year();
        x.sign(0, 0, 0, true);
        x.rings();
        x.image(0);
        int seed = x.about(6);
        Check.feed(x, "skill t;skill u;order y asks u 9;parish q;person b of q age 30 u 4;teach 9+9;open 9;draw 7;$");
        CHECK.due("town with a FAULT", x.town(), -1);
        CHECK.due("the TAPE is empty all the same", x.about(12), 0);
        CHECK.due("PERSONS stay", x.about(0), 1);
        CHECK.due("his age stays", x.person(0, 0), 2);
        CHECK.due("his level stays", x.level(0, 0), 5);
        CHECK.due("SKILLS stay", x.about(1), 1);
        CHECK.due("odds stay", x.share(0, 0), 9);
        CHECK.due("ORDERS stay", x.order(0, 1), 1);
        CHECK.due("the year stays", x.about(5), 1);
        CHECK.due("the SEED stays", x.about(6), seed);
        CHECK.due("open stays", x.about(7), 7);
        CHECK.due("ACTS stay", x.about(8), 2);
        CHECK.due("SIGNS stay", x.about(10), 1);
        CHECK.due("units stay", x.about(13), 1);
        CHECK.due("what lies there stays", x.about(14), 1);
        CHECK.due("BOXES stay", x.back(0), 1);
        x.year();
        CHECK.due("teach stays", x.level(0, 0), 8);
    }

    private static void tokens() {
        CHECK.dueTown("skill abcdefgh;", 0);
        CHECK.dueFault("skill abcdefghi;", 1, 6);
        CHECK.dueFault("skills x;", 2, 0);
        CHECK.dueTown("\nskill\n \na ;\n", 0);
        CHECK.dueFault("skill\ta;", 1, 5);
        CHECK.dueFault("Skill a;", 1, 0);
        CHECK.dueFault("skill A;", 1, 6);
        CHECK.dueFault("skill a;\0", 1, 8);
        CHECK.dueFault("skill a;\u00e9", 1, 8);
        CHECK.dueFault("skill a;!", 1, 8);
        CHECK.dueTown("open 0007;", 0);
        CHECK.dueFault("open 00007;", 1, 5);
        CHECK.dueFault("open 12345;", 1, 5);
        CHECK.dueFault("open 7a;", 1, 5);
        CHECK.dueFault("open 7 a;", 2, 7);
        CHECK.dueTown("open7;draw9;", 0);
        CHECK.dueFault("skill s;order x asks s7seal 1;", 1, 22);
        CHECK.dueTown("skill s;order x asks s7 seal1 weight2 worth3;", 0);
        CHECK.dueFault("teach 1 & 2;", 1, 8);
        CHECK.dueFault("teach 12345+1;", 1, 6);
        CHECK.dueFault("teach 5x;", 1, 6);
        CHECK.dueFault("teach 1.5;", 1, 7);
        CHECK.dueTown("skill e;skill both;skill one;skill sum;", 0);
        CHECK.dueTown("skill a;order a asks a 1;parish a;person a of a age 1 a 1;", 1);
    }

    private static void places() {
        CHECK.dueFault("skill", 2, 5);
        CHECK.dueFault("skill  ", 2, 7);
        CHECK.dueFault("skill a", 2, 7);
        CHECK.dueFault("skill a\n\n", 2, 9);
        CHECK.dueFault("skill a b;", 2, 8);
        CHECK.dueFault("skill 1;", 2, 6);
        CHECK.dueFault("skill ;", 2, 6);
        CHECK.dueFault(";", 2, 0);
        CHECK.dueFault("12;", 2, 0);
        CHECK.dueFault("name a;", 2, 0);
        CHECK.dueFault("asks a;", 2, 0);
        String[] words = {"skill", "order", "asks", "seal", "weight", "worth", "parish", "odds", "person", "of", "age",
            "undoes", "teach", "open", "draw", "or", "and", "not", "level", "year", "which"};
        for (String word : words) {
            CHECK.dueFault("skill " + word + ";", 2, 6);
            CHECK.dueFault("undoes " + word + ";", 2, 7);
        }
        CHECK.dueFault("skill s;order x of", 2, 16);
        CHECK.dueFault("skill s;order x asks 1", 2, 21);
        CHECK.dueFault("skill s;order x asks s s", 2, 23);
        CHECK.dueFault("skill s;order x asks s 1 worth 1 worth", 2, 33);
        CHECK.dueFault("skill s;order x asks s 1 worth 1 weight", 2, 33);
        CHECK.dueFault("skill s;order x asks s 1 seal seal", 2, 30);
        CHECK.dueFault("odds 1", 2, 5);
        CHECK.dueFault(HEAD + "odds p 1", 2, 41);
        CHECK.dueFault(HEAD + "odds p x ;", 2, 43);
        CHECK.dueFault("person a age 1", 2, 9);
        CHECK.dueFault(HEAD + "person a of p 3", 2, 48);
        CHECK.dueFault(HEAD + "person a of p age s", 2, 52);
        CHECK.dueFault(HEAD + "person a of p age 1 2", 2, 54);
        CHECK.dueFault(HEAD + "person a of p age 1 s ;", 2, 56);
        CHECK.dueFault(HEAD + "person a of p age 1 age", 2, 54);
        CHECK.dueFault("open;", 2, 4);
        CHECK.dueFault("open x;", 2, 5);
        CHECK.dueFault("draw -1;", 2, 5);
        CHECK.dueFault("draw 1 2;", 2, 7);
        // what would begin a line can't stand ahead of this line's end
        CHECK.dueFault("skill a skill b;", 2, 8);
        CHECK.dueFault("skill s;order x skill t;", 2, 16);
        CHECK.dueFault("skill s;order x asks s skill t;", 2, 23);
        CHECK.dueFault("skill s;order x asks s 1 seal skill t;", 2, 30);
        CHECK.dueFault("skill s;order x asks s 1 skill t;", 2, 25);
        CHECK.dueFault("parish p;odds p skill t;", 2, 16);
        CHECK.dueFault(HEAD + "odds p x skill t;", 2, 43);
        CHECK.dueFault(HEAD + "odds p x 1 skill t;", 2, 45);
        CHECK.dueFault("parish p;person a skill t;", 2, 18);
        CHECK.dueFault("parish p;person a of skill t;", 2, 21);
        CHECK.dueFault("parish p;person a of p skill t;", 2, 23);
        CHECK.dueFault("parish p;person a of p age skill t;", 2, 27);
        CHECK.dueFault("parish p;person a of p age 1 skill t;", 2, 29);
        CHECK.dueFault(HEAD + "person a of p age 1 s skill t;", 2, 56);
        CHECK.dueFault(HEAD + "undoes x skill t;", 2, 43);
        CHECK.dueFault("open skill t;", 2, 5);
        CHECK.dueFault("open 1 skill t;", 2, 7);
        CHECK.dueFault("draw skill t;", 2, 5);
        CHECK.dueFault("teach 1 skill t;", 2, 8);
    }

    private static void tooMany() {
        CHECK.dueTown("skill a;skill b;skill c;skill d;", 0);
        CHECK.dueFault("skill a;skill b;skill c;skill d;skill e;", 2, 32);
        CHECK.dueFault("skill a;skill b;skill c;skill d;skill a;", 2, 32);
        StringBuilder orders = new StringBuilder("skill s;");
        for (char name = 'a'; name <= 'h'; name++) {
            orders.append("order ").append(name).append(" asks s 0;");
        }
        CHECK.due("eight ORDERS", CHECK.dueTown(orders.toString(), 0).about(2), 8);
        CHECK.dueFault(orders + " order i asks s 0;", 2, orders.length() + 1);
        CHECK.dueFault("parish a;parish b;parish c;parish d;", 2, 27);
        StringBuilder people = new StringBuilder("parish p;");
        for (char name = 'a'; name <= 'f'; name++) {
            people.append("person ").append(name).append(" of p age 0;");
        }
        CHECK.due("six PERSONS", CHECK.dueTown(people.toString(), 6).about(0), 6);
        CHECK.dueFault(people + "person g of p age 0;", 2, people.length());
        StringBuilder pairs = new StringBuilder(orders);
        for (char name = 'a'; name <= 'g'; name++) {
            pairs.append("undoes ").append(name).append(" h;");
        }
        pairs.append("undoes h a;");
        CHECK.due("eight undoes", CHECK.dueTown(pairs.toString(), 0).about(4), 8);
        CHECK.dueFault(pairs + "undoes a b;", 2, pairs.length());
        CHECK.dueFault("teach 1;teach 1;", 2, 8);
        CHECK.dueFault("open 1;open 1;", 2, 7);
        CHECK.dueFault("draw 1;open 1;draw 1;", 2, 14);
        CHECK.dueTown("draw 1;open 1;teach 1;", 0);
    }

    private static void toldAlready() {
        CHECK.dueFault("skill a;skill a;", 3, 14);
        CHECK.dueFault(HEAD + "order x asks", 3, 40);
        CHECK.dueFault("parish p;parish p;", 3, 16);
        CHECK.dueFault("parish p;person a of p age 1;person a of p age 1;", 3, 36);
        CHECK.dueFault(HEAD + "person a of p age 1 s 1 s 2;", 3, 58);
        String full = "skill a;skill b;skill c;skill d;parish p;person a of p age 1 d 1 c 1 b 1 a 1";
        CHECK.dueTown(full + ";", 1);
        CHECK.dueFault(full + " d 1;", 3, full.length() + 1);
        CHECK.dueFault(full + " e 1;", 5, full.length() + 1);
        CHECK.dueFault(full + " of", 2, full.length() + 1);
        CHECK.dueFault(HEAD + "odds p x 1;odds p x 1;", 3, 52);
        CHECK.dueTown(HEAD + "parish q;odds p x 1;odds q x 1;order y asks s 1;odds p y 1;", 0);
        String two = HEAD + "order y asks s 1;";
        CHECK.dueFault(two + "undoes x x;", 3, two.length() + 9);
        CHECK.dueFault(two + "undoes x y;undoes x y;", 3, two.length() + 20);
        FortyLetters x = CHECK.dueTown(two + "undoes x y;undoes y x;", 0);
        CHECK.due("x undoes y", x.order(0, 5), 2);
        CHECK.due("y undoes x", x.order(1, 5), 1);
    }

    private static void numbers() {
        CHECK.dueTown("skill s;order x asks s 20 seal 9 weight 9 worth 9;order y asks s 0 seal 0 weight 0 worth 1;", 0);
        CHECK.dueFault("skill s;order x asks s 21;", 4, 23);
        CHECK.dueFault("skill s;order x asks s 1 seal 10;", 4, 30);
        CHECK.dueFault("skill s;order x asks s 1 weight 10;", 4, 32);
        CHECK.dueFault("skill s;order x asks s 1 worth 10;", 4, 31);
        CHECK.dueFault("skill s;order x asks s 1 worth 0;", 4, 31);
        CHECK.dueFault(HEAD + "odds p x 0;", 4, 43);
        CHECK.dueFault(HEAD + "odds p x 10;", 4, 43);
        CHECK.dueTown(HEAD + "odds p x 9;", 0);
        CHECK.dueTown(HEAD + "person a of p age 39 s 20;person b of p age 0 s 0;", 2);
        CHECK.dueFault(HEAD + "person a of p age 40;", 4, 52);
        CHECK.dueFault(HEAD + "person a of p age 39 s 21;", 4, 57);
        CHECK.due("open 60", CHECK.dueTown("open 60;", 0).about(7), 60);
        CHECK.due("open 1", CHECK.dueTown("open 1;", 0).about(7), 1);
        CHECK.dueFault("open 61;", 4, 5);
        CHECK.dueFault("open 0;", 4, 5);
        CHECK.due("draw 999", CHECK.dueTown("draw 999;", 0).about(6), 999);
        CHECK.dueFault("draw 1000;", 4, 5);
        CHECK.dueTown("teach 9999;", 0);
    }

    private static void unknownNames() {
        CHECK.dueFault("order x asks s 1;", 5, 13);
        CHECK.dueFault("odds p x 1;", 5, 5);
        CHECK.dueFault("parish p;odds p x 1;", 5, 16);
        CHECK.dueFault("person a of p age 1;", 5, 12);
        CHECK.dueFault("parish p;person a of p age 1 s 1;", 5, 29);
        CHECK.dueFault("undoes x y;", 5, 7);
        CHECK.dueFault(HEAD + "undoes x y;", 5, 43);
        CHECK.dueFault("skill s;parish p;odds p s 1;", 5, 24);
    }

    private static String times(String text, int count) {
        return text.repeat(count);
    }

    private static void formulas() {
        CHECK.due("units of 1", CHECK.dueTown("teach 1;", 0).about(13), 1);
        CHECK.due("a bracket is a unit too", CHECK.dueTown("teach (1);", 0).about(13), 2);
        CHECK.due("units", CHECK.dueTown("teach level*2+age/year-which%(1 or 2 and not 3)<4;", 0).about(13), 10);
        CHECK.due("30 units", CHECK.dueTown("teach 1" + times("+1", 29) + ";", 0).about(13), 30);
        CHECK.dueFault("teach 1" + times("+1", 30) + ";", 2, 66);
        CHECK.dueFault("teach (1" + times("+1", 28) + ")+1;", 2, 66);
        CHECK.due("30 units, one of them a bracket", CHECK.dueTown("teach (1" + times("+1", 28) + ");", 0).about(13), 30);
        CHECK.dueFault("teach 1" + times("+1", 29) + "+(1);", 2, 66);
        CHECK.dueFault("teach 1" + times("+1", 29) + "+12345;", 1, 66);
        CHECK.due("seven brackets", CHECK.dueTown("teach " + times("(", 7) + "1" + times(")", 7) + ";", 0).about(13), 8);
        CHECK.dueFault("teach " + times("(", 8) + "1" + times(")", 8) + ";", 2, 13);
        CHECK.dueTown("teach " + times("not ", 7) + "1;", 0);
        CHECK.dueFault("teach " + times("not ", 8) + "1;", 2, 34);
        CHECK.dueTown("teach not(not(not(not 1)));", 0);
        CHECK.dueFault("teach not(not(not(not(1))));", 2, 21);
        CHECK.dueFault("teach (not(not(not(not 1))));", 2, 19);
        CHECK.dueTown("teach " + times("not ", 7) + "1 and " + times("not ", 7) + "1;", 0);
        CHECK.dueTown("teach " + times("(1)+", 9) + "1;", 0);
        CHECK.dueFault("teach 1<2<3;", 2, 9);
        CHECK.dueFault("teach 1=2>3;", 2, 9);
        CHECK.dueTown("teach (1<2)<3;", 0);
        CHECK.dueFault("teach ;", 2, 6);
        CHECK.dueFault("teach 1+;", 2, 8);
        CHECK.dueFault("teach +1;", 2, 6);
        CHECK.dueFault("teach 1 2;", 2, 8);
        CHECK.dueFault("teach (1;", 2, 8);
        CHECK.dueFault("teach 1);", 2, 7);
        CHECK.dueFault("teach 1 or;", 2, 10);
        CHECK.dueFault("teach 1 and;", 2, 11);
        CHECK.dueFault("teach not;", 2, 9);
        CHECK.dueFault("teach 1<;", 2, 8);
        CHECK.dueFault("teach 1=;", 2, 8);
        CHECK.dueFault("teach 1*;", 2, 8);
        CHECK.dueFault("teach 1-;", 2, 8);
        CHECK.dueFault("teach 1%;", 2, 8);
        CHECK.dueFault("teach ();", 2, 7);
        CHECK.dueFault("teach 1+not 1;", 2, 8);
        CHECK.dueFault("teach 1 not 1;", 2, 8);
        CHECK.dueFault("teach s;", 2, 6);
        CHECK.dueFault("teach 1", 2, 7);
        CHECK.dueTown("teach 1 or 2 or 3 and 4 and 5;", 0);
    }
}
