/** Promises 38 and 39: images and what goes on from them. */
public final class ImageTest {
    private static final Check CHECK = new Check("ImageTest");
    private static final String TOWN = "skill s;order x asks s 1;order y asks s 2;parish p;parish q;odds p x 1;odds q y 1;"
        + "person a of p age 1;person b of q age 1;open 3;";

    public static void main(String[] args) {
        boxes();
        allIsAsItWas();
        CHECK.finish();
    }

    private static void boxes() {
        FortyLetters x = Check.town(TOWN);
        CHECK.due("no such BOX", x.image(3), -1);
        CHECK.due("BOX -1", x.image(-1), -1);
        CHECK.due("nothing was kept", x.back(0), -1);
        CHECK.due("back no such BOX", x.back(3), -1);
        CHECK.due("back BOX -1", x.back(-1), -1);
        CHECK.due("kept in year 0", x.image(0), 0);
        CHECK.due("BOX 32", x.back(32), -1);
        CHECK.due("BOX -32", x.back(-32), -1);
        CHECK.due("image in BOX 32", x.image(32), -1);
        x.year();
        CHECK.due("kept in year 1", x.image(2), 1);
        x.year();
        CHECK.due("no image is an ACT", x.about(8), 2);
        CHECK.due("another BOX is empty", x.back(1), -1);
        CHECK.due("that does nothing", x.about(8), 2);
        CHECK.due("back to year 1", x.back(2), 1);
        CHECK.due("none is OPENED", x.many(0), 2);
        CHECK.due("no ACTS are kept", x.about(8), 0);
        CHECK.due("nothing to undo", x.undo(), false);
        x.year();
        x.undo();
        CHECK.due("back to year 0", x.back(0), 0);
        CHECK.due("nothing to redo", x.redo(), false);
        CHECK.due("ages", x.person(0, 0), 1);
        CHECK.due("a BOX can be gone back to again", x.back(2), 1);
        CHECK.due("ages", x.person(0, 0), 2);
        CHECK.due("a BOX can be kept anew", x.image(0), 1);
        x.year();
        CHECK.due("back to year 1", x.back(0), 1);
    }

    private static void allIsAsItWas() {
        FortyLetters x = Check.town(TOWN);
        x.prepare(0, 0);
        x.steam(1);
        x.year();
        x.image(1);
        x.prepare(0, -1);
        x.swap(0, 1);
        x.forge(0, 0);
        x.year();
        x.sign(0, 0, 0, true);
        x.later(4);
        x.rings();
        CHECK.due("back", x.back(1), 1);
        CHECK.due("what he prepares", x.person(0, 2), 0);
        CHECK.due("his LETTER", x.person(0, 4), 0);
        CHECK.due("his LETTER is SEALED", x.person(0, 1), 0);
        CHECK.due("the other's LETTER", x.person(1, 4), 1);
        CHECK.due("the other's is STEAMED", x.person(1, 1), 1);
        CHECK.due("his level", x.level(0, 0), 1);
        CHECK.due("his age", x.person(0, 0), 2);
        CHECK.due("the year", x.about(5), 1);
        CHECK.due("SIGNS stay", x.about(10), 1);
        CHECK.due("the TIME stays", x.about(11), 4);
        CHECK.due("what lies there stays", x.about(14), 2);
        CHECK.due("it goes on from there", x.year(), 2);
        CHECK.due("DONE", x.person(0, 1), 2);
        CHECK.due("an ACT", x.about(8), 1);
        x.undo();
        CHECK.due("undone to what was kept", x.about(5), 1);
        CHECK.due("not OPENED", x.person(0, 1), 0);
    }
}
