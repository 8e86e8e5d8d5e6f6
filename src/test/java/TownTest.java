/** Promises 6 to 11 and 40: what a TOWN is told to be, and how LETTERS are drawn. */
public final class TownTest {
    private static final Check CHECK = new Check("TownTest");

    public static void main(String[] args) {
        drawing();
        persons();
        levels();
        orders();
        shares();
        manyAndDone();
        about();
        CHECK.finish();
    }

    private static void drawing() {
        String text = "skill s;order x asks s 0;order y asks s 0;order z asks s 0;parish p;parish none;odds p x 2;odds p z 3;"
            + "person a of p age 1;person b of none age 1;person c of p age 1;person d of p age 1;";
        for (int draw = 0; draw < 1000; draw += 37) {
            FortyLetters x = Check.town(text + "draw " + draw + ";");
            int seed = draw;
            for (int person = 0; person < 4; person++) {
                seed = (seed * 137 + 71) % 1000;
                int order = person == 1 ? -1 : seed % 5 < 2 ? 0 : 2;
                CHECK.due("draw " + draw + " person " + person, x.person(person, 4), order);
                CHECK.due("SEALED", x.person(person, 1), 0);
            }
            CHECK.due("the SEED behind all", x.about(6), seed);
        }
    }

    private static void persons() {
        FortyLetters x = Check.town("skill s;skill t;order x asks s 3;order y asks t 2;order z asks s 4;parish p;parish q;"
            + "odds q y 1;person a of q age 39 t 2 s 3;person b of p age 0;");
        int[][] due = {{39, 0, -1, 1, 1, 3}, {0, 0, -1, 0, -1, 0}};
        for (int person = 0; person < 2; person++) {
            for (int what = 0; what < 6; what++) {
                CHECK.due("person(" + person + ", " + what + ")", x.person(person, what), due[person][what]);
            }
            CHECK.due("person what 6", x.person(person, 6), -2);
            CHECK.due("person what -1", x.person(person, -1), -2);
        }
        CHECK.due("no third PERSON", x.person(2, 0), -2);
        CHECK.due("no PERSON below 0", x.person(-1, 4), -2);
        x.prepare(0, 1);
        CHECK.due("what he prepares", x.person(0, 2), 1);
    }

    private static void levels() {
        FortyLetters x = Check.town("skill s;skill t;parish p;person a of p age 1 t 20;person b of p age 2 s 4;");
        CHECK.due("level not told", x.level(0, 0), 0);
        CHECK.due("level told", x.level(0, 1), 20);
        CHECK.due("level of another", x.level(1, 0), 4);
        CHECK.due("no SKILL", x.level(0, 2), -1);
        CHECK.due("SKILL below 0", x.level(0, -1), -1);
        CHECK.due("no PERSON", x.level(2, 0), -1);
        CHECK.due("PERSON below 0", x.level(-1, 0), -1);
        Check.feed(x, "skill s;skill t;parish p;person a of p age 1;");
        x.town();
        CHECK.due("levels of an earlier TOWN are gone", x.level(0, 1), 0);
    }

    private static void orders() {
        FortyLetters x = Check.town("skill s;skill t;order x asks t 20 seal 9 weight 8 worth 7;order y asks s 0;"
            + "order z asks t 5 weight 3;order w asks s 1 worth 9;undoes x y;undoes x w;undoes y x;");
        int[][] due = {{1, 20, 9, 8, 7, 10}, {0, 0, 0, 0, 1, 1}, {1, 5, 0, 3, 1, 0}, {0, 1, 0, 0, 9, 0}};
        for (int order = 0; order < 4; order++) {
            for (int what = 0; what < 6; what++) {
                CHECK.due("order(" + order + ", " + what + ")", x.order(order, what), due[order][what]);
            }
            CHECK.due("order what 6", x.order(order, 6), -1);
            CHECK.due("order what -1", x.order(order, -1), -1);
        }
        CHECK.due("no fifth ORDER", x.order(4, 0), -1);
        CHECK.due("no ORDER below 0", x.order(-1, 0), -1);
        Check.feed(x, "skill s;order x asks s 1;order y asks s 1;");
        x.town();
        CHECK.due("undoes of an earlier TOWN are gone", x.order(0, 5), 0);
        CHECK.due("traits of an earlier TOWN are gone", x.order(0, 2) + x.order(0, 3) + x.order(0, 4), 1);
    }

    private static void shares() {
        FortyLetters x = Check.town("skill s;order x asks s 1;order y asks s 1;parish p;parish q;odds p y 9;odds q x 1;");
        CHECK.due("share not told", x.share(0, 0), 0);
        CHECK.due("share told", x.share(0, 1), 9);
        CHECK.due("share of another", x.share(1, 0), 1);
        CHECK.due("no PARISH", x.share(2, 0), -1);
        CHECK.due("PARISH below 0", x.share(-1, 0), -1);
        CHECK.due("no ORDER", x.share(0, 2), -1);
        CHECK.due("ORDER below 0", x.share(0, -1), -1);
        Check.feed(x, "skill s;order x asks s 1;order y asks s 1;parish p;");
        x.town();
        CHECK.due("odds of an earlier TOWN are gone", x.share(0, 1), 0);
    }

    private static void manyAndDone() {
        FortyLetters x = Check.town("skill s;order x asks s 1;order y asks s 2;parish p;parish q;parish r;odds p x 1;odds q y 1;"
            + "person a of p age 1 s 1;person b of q age 1 s 1;person c of r age 1;person d of p age 1;person e of q age 1;");
        CHECK.due("none DONE", x.done(), 0);
        CHECK.due("all SEALED", x.many(0), 5);
        x.steam(3);
        x.opens(0);
        x.opens(1);
        x.opens(2);
        for (int state = 0; state <= 4; state++) {
            CHECK.due("many(" + state + ")", x.many(state), 1);
        }
        CHECK.due("many(5)", x.many(5), -1);
        CHECK.due("many(-1)", x.many(-1), -1);
        CHECK.due("just x is DONE", x.done(), 1);
        x.forge(3, 0);
        x.opens(3);
        CHECK.due("x failed by another stays DONE", x.done(), 1);
    }

    private static void about() {
        FortyLetters x = Check.town("skill s;skill t;order x asks s 1;order y asks s 2;order z asks s 3;parish p;"
            + "person a of p age 1;person b of p age 1;undoes x y;teach 1+level;open 9;draw 9;");
        int[] due = {2, 2, 3, 1, 1, 0, 719, 9, 0, 0, 0, 0, 0, 2, 0};
        for (int what = 0; what < due.length; what++) {
            CHECK.due("about(" + what + ")", x.about(what), due[what]);
        }
        x.year();
        x.steam(0);
        x.undo();
        x.sign(0, 0, 0, true);
        x.sign(0, 0, 0, true);
        x.later(5);
        x.feed(0, 0, 0, 0, 0);
        x.opening(3);
        int[] then = {2, 2, 3, 1, 1, 1, 719, 9, 1, 1, 2, 5, 20, 2, 2};
        for (int what = 0; what < then.length; what++) {
            CHECK.due("then about(" + what + ")", x.about(what), then[what]);
        }
        CHECK.due("about(15)", x.about(15), -1);
        CHECK.due("about(-1)", x.about(-1), -1);
    }
}
