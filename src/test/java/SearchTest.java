/** Promises 28 to 31: RINGS, OPENING, LAW, and what lies there. */
public final class SearchTest {
    private static final Check CHECK = new Check("SearchTest");
    private static final String TOWN = "skill s;skill t;order x asks s 1 worth 2;order y asks t 1 worth 5;order z asks t 9 worth 9;"
        + "parish p;parish q;parish r;odds p x 1;odds q y 1;";

    public static void main(String[] args) {
        rings();
        noneHasLess();
        opening();
        openingAllSix();
        law();
        lies();
        CHECK.finish();
    }

    private static void ringsAre(FortyLetters x, int sum, String whose) {
        CHECK.due("rings()", x.rings(), sum);
        CHECK.dueLying(x, whose);
    }

    private static void rings() {
        FortyLetters x = Check.town(TOWN + "person a of p age 1 t 1;person b of q age 1 s 1;person c of r age 1;");
        ringsAre(x, 8, "1 0 2");
        x.opens(2);
        ringsAre(x, 7, "1 0 -1");
        x.opens(0);
        ringsAre(x, 0, "-1 1 -1");
        x.opens(1);
        ringsAre(x, 0, "-1 -1 -1");
        x = Check.town(TOWN + "person a of p age 1;person b of p age 1;person c of p age 1;");
        ringsAre(x, 0, "0 1 2");
        x = Check.town(TOWN + "person a of p age 1 t 1;person b of p age 1 s 1;person c of q age 1 s 1;person d of r age 1 s 1;");
        // a ring of three: a has y, b another x, and c the x of b
        ringsAre(x, 10, "2 0 1 3");
        x.prepare(0, 0);
        x.forge(0, 2);
        ringsAre(x, 8, "2 1 0 3");
        ringsAre(new FortyLetters(), 0, "");
    }

    private static void noneHasLess() {
        // All together would have most if b gave his BLANK for a worth of 0 and a had it.
        FortyLetters x = Check.town(TOWN + "person a of q age 1 s 1;person b of p age 1 s 1 t 1;");
        ringsAre(x, 7, "1 0");
        x = Check.town(TOWN + "person a of q age 1 s 1;person b of r age 1;");
        ringsAre(x, 1, "0 1");
        x = Check.town(TOWN + "person a of p age 1 s 1 t 1;person b of q age 1 t 1 s 1;");
        ringsAre(x, 7, "0 1");
        x = Check.town(TOWN + "person a of p age 1 s 1 t 1;person b of q age 1 t 1;person c of r age 1 s 1;");
        ringsAre(x, 8, "0 1 2");
    }

    private static void openingIs(FortyLetters x, int set, int done, String order) {
        CHECK.due("opening(" + set + ")", x.opening(set), done);
        CHECK.dueLying(x, order);
    }

    private static void opening() {
        String text = "skill s;order x asks s 0;order y asks s 0;order z asks s 0;parish p;parish q;parish r;"
            + "odds p x 1;odds q y 1;odds r z 1;person a of p age 1;person b of q age 1;person c of r age 1;";
        FortyLetters x = Check.town(text);
        openingIs(x, 7, 3, "0 1 2");
        openingIs(x, 5, 2, "0 2");
        openingIs(x, 0, 0, "");
        openingIs(x, 4, 1, "2");
        openingIs(x, 8, -1, "");
        openingIs(x, 7, 3, "0 1 2");
        openingIs(x, -1, -1, "");
        openingIs(x, 64, -1, "");
        openingIs(x, 1 << 31, -1, "");
        x = Check.town(text + "undoes x y;undoes y z;");
        openingIs(x, 7, 3, "2 1 0");
        openingIs(x, 3, 2, "1 0");
        openingIs(x, 5, 2, "0 2");
        x.opens(0);
        openingIs(x, 6, 1, "1 2");
        openingIs(x, 7, -1, "");
        openingIs(x, 2, 0, "1");
        x = Check.town(text + "undoes x y;undoes y z;undoes z x;");
        openingIs(x, 7, 2, "0 1 2");
        x = Check.town(text.replace("order x asks s 0", "order x asks s 1") + "undoes x y;");
        openingIs(x, 7, 2, "0 1 2");
    }

    private static void openingAllSix() {
        FortyLetters x = Check.town("skill s;order a asks s 0;order b asks s 0;order c asks s 0;parish p;parish q;parish r;"
            + "odds p a 1;odds q b 1;odds r c 1;person a of p age 1;person b of p age 1;person c of q age 1;"
            + "person d of q age 1;person e of r age 1;person f of r age 1;undoes a b;undoes b c;");
        openingIs(x, 63, 6, "4 5 2 3 0 1");
        openingIs(x, 62, 5, "4 5 2 3 1");
    }

    private static void law() {
        FortyLetters x = Check.town(TOWN + "person a of p age 1 t 1;person b of p age 1 s 1;person c of q age 1;person d of p age 1 t 1;");
        CHECK.due("y in place of x", x.law(0, 1), 1);
        CHECK.due("x in place of y", x.law(1, 0), 0);
        CHECK.due("z in place of x", x.law(0, 2), -1);
        CHECK.due("x in place of z, which none holds", x.law(2, 0), 0);
        CHECK.due("both alike", x.law(1, 1), -100);
        CHECK.due("no such", x.law(0, 3), -100);
        CHECK.due("no such one", x.law(3, 0), -100);
        CHECK.due("below 0", x.law(-1, 0), -100);
        CHECK.due("other below 0", x.law(0, -1), -100);
        x.opens(0);
        CHECK.due("OPENED ones hold what they hold", x.law(0, 1), 0);
        x.prepare(1, 1);
        CHECK.due("what YEARS bring counts", x.law(0, 2), 0);
        x = Check.town("skill s;order x asks s 0;order y asks s 0;order z asks s 0;parish p;parish q;odds p x 1;odds q y 1;"
            + "person a of p age 1;person b of q age 1;person c of q age 1;undoes x y;open 60;");
        CHECK.due("z in place of x", x.law(0, 2), 2);
        CHECK.due("z in place of y", x.law(1, 2), 2);
        CHECK.due("x in place of y", x.law(1, 0), 2);
        CHECK.due("y in place of x", x.law(0, 1), 2);
        CHECK.due("the 60th YEAR counts", Check.town("skill s;order x asks s 0;order y asks s 1;parish p;odds p x 1;"
            + "person a of p age 0;open 60;").law(0, 1), -1);
        x.opens(0);
        CHECK.due("what is DONE already undoes", x.law(1, 2), 2);
        CHECK.due("none that is not OPENED holds it", x.law(0, 1), 0);
    }

    private static void lies() {
        FortyLetters x = Check.town(TOWN + "person a of p age 39;person b of q age 39;person c of q age 39;");
        CHECK.due("nothing yet", x.lies(0), -2);
        x.rings();
        CHECK.due("lies(0)", x.lies(0), 0);
        CHECK.due("lies(2)", x.lies(2), 2);
        CHECK.due("lies(3)", x.lies(3), -2);
        CHECK.due("lies(-1)", x.lies(-1), -2);
        CHECK.due("lies(99)", x.lies(99), -2);
        x.year();
        x.undo();
        x.done();
        CHECK.dueLying(x, "0 1 2");
        x.life(0);
        CHECK.dueLying(x, "1 0");
        x.opening(2);
        CHECK.dueLying(x, "1");
        x.life(9);
        CHECK.dueLying(x, "");
        x.opening(2);
        x.opening(8);
        CHECK.dueLying(x, "");
    }
}
