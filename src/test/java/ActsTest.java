/** Promises 12 to 19: ACTS, UNDO and REDO. */
public final class ActsTest {
    private static final Check CHECK = new Check("ActsTest");
    private static final String TOWN = "skill s;skill t;order x asks s 2;order y asks t 3;parish p;parish q;parish r;"
        + "odds p x 1;odds q y 1;person a of p age 10 s 2;person b of q age 10 t 1;person c of r age 10;open 12;";

    public static void main(String[] args) {
        prepare();
        steam();
        swap();
        forge();
        opens();
        undoing();
        years();
        formulas();
        undoRedo();
        mostActs();
        eachActIsKept();
        refusedActs();
        CHECK.finish();
    }

    private static void prepare() {
        FortyLetters x = Check.town(TOWN);
        CHECK.due("prepare", x.prepare(0, 1), -1);
        CHECK.due("prepare another", x.prepare(0, 0), 1);
        CHECK.due("prepare none", x.prepare(0, -1), 0);
        CHECK.due("prepare none again", x.prepare(0, -1), -1);
        CHECK.due("an ACT each", x.about(8), 4);
        CHECK.due("no such SKILL", x.prepare(0, 2), -2);
        CHECK.due("SKILL -2", x.prepare(0, -2), -2);
        CHECK.due("no such PERSON", x.prepare(3, 0), -2);
        CHECK.due("PERSON -1", x.prepare(-1, 0), -2);
        x.opens(0);
        CHECK.due("OPENED", x.prepare(0, 0), -2);
        CHECK.due("no ACT", x.about(8), 5);
        CHECK.due("he prepares as he did", x.person(0, 2), -1);
    }

    private static void steam() {
        FortyLetters x = Check.town(TOWN);
        CHECK.due("steam", x.steam(1), 1);
        CHECK.due("STEAMED", x.person(1, 1), 1);
        CHECK.due("twice", x.steam(1), -2);
        CHECK.due("BLANK", x.steam(2), -1);
        CHECK.due("BLANK is STEAMED", x.person(2, 1), 1);
        CHECK.due("no such", x.steam(3), -2);
        CHECK.due("below 0", x.steam(-1), -2);
        x.opens(0);
        CHECK.due("OPENED", x.steam(0), -2);
        CHECK.due("ACTS", x.about(8), 3);
    }

    private static void swap() {
        FortyLetters x = Check.town(TOWN);
        x.steam(0);
        x.steam(1);
        CHECK.due("swap", x.swap(0, 2), true);
        CHECK.due("he has the other's", x.person(0, 4), -1);
        CHECK.due("the other has his", x.person(2, 4), 0);
        CHECK.due("SEALED then", x.person(0, 1), 0);
        CHECK.due("both", x.person(2, 1), 0);
        CHECK.due("a third stays", x.person(1, 1), 1);
        CHECK.due("swap a STEAMED one from the other side", x.swap(0, 1), true);
        CHECK.due("SEALED", x.person(1, 1), 0);
        CHECK.due("both are one", x.swap(0, 0), false);
        CHECK.due("no such", x.swap(0, 3), false);
        CHECK.due("no such first", x.swap(3, 0), false);
        CHECK.due("below 0", x.swap(-1, 0), false);
        x.opens(0);
        CHECK.due("the first OPENED", x.swap(0, 1), false);
        CHECK.due("the other OPENED", x.swap(1, 0), false);
        CHECK.due("ACTS", x.about(8), 5);
    }

    private static void forge() {
        FortyLetters x = Check.town(TOWN);
        CHECK.due("forge", x.forge(0, 1), 0);
        CHECK.due("it holds that", x.person(0, 4), 1);
        CHECK.due("STEAMED", x.person(0, 1), 1);
        CHECK.due("forge a BLANK", x.forge(2, 0), -1);
        CHECK.due("to what it holds", x.forge(2, 0), 0);
        CHECK.due("no such ORDER", x.forge(0, 2), -2);
        CHECK.due("NONE is no ORDER", x.forge(0, -1), -2);
        CHECK.due("no such PERSON", x.forge(3, 0), -2);
        CHECK.due("PERSON -1", x.forge(-1, 0), -2);
        x.opens(1);
        CHECK.due("OPENED", x.forge(1, 0), -2);
        CHECK.due("it holds as it did", x.person(1, 4), 1);
        CHECK.due("ACTS", x.about(8), 4);
    }

    private static void opens() {
        FortyLetters x = Check.town(TOWN);
        CHECK.due("DONE", x.opens(0), 2);
        CHECK.due("FAILED", x.opens(1), 3);
        CHECK.due("FREE", x.opens(2), 4);
        CHECK.due("already", x.opens(2), -1);
        CHECK.due("no such", x.opens(3), -1);
        CHECK.due("below 0", x.opens(-1), -1);
        CHECK.due("ACTS", x.about(8), 3);
        CHECK.due("the age is as it was", x.person(0, 0), 10);
    }

    private static void undoing() {
        String text = "skill s;order x asks s 0;order y asks s 0;parish p;parish q;odds p x 1;odds q y 1;"
            + "person a of p age 1;person b of q age 1;person c of p age 1;undoes x y;";
        FortyLetters x = Check.town(text);
        CHECK.due("x first", x.opens(0), 2);
        CHECK.due("y is undone", x.opens(1), 3);
        CHECK.due("x again", x.opens(2), 2);
        x = Check.town(text);
        CHECK.due("y first", x.opens(1), 2);
        CHECK.due("x does not mind", x.opens(0), 2);
        CHECK.due("both DONE", x.done(), 3);
        x = Check.town(text.replace("asks s 0;order y", "asks s 1;order y"));
        CHECK.due("x FAILED", x.opens(0), 3);
        CHECK.due("what FAILED undoes nothing", x.opens(1), 2);
    }

    private static void years() {
        FortyLetters x = Check.town(TOWN);
        x.prepare(1, 1);
        CHECK.due("a YEAR", x.year(), 0);
        CHECK.due("the year", x.about(5), 1);
        CHECK.due("older", x.person(0, 0), 11);
        CHECK.due("what he prepares is more by 1", x.level(1, 1), 2);
        CHECK.due("another SKILL not", x.level(1, 0), 0);
        CHECK.due("who prepares none learns none", x.level(0, 0), 2);
        x.opens(2);
        CHECK.due("two are OPENED", x.year(), 2);
        CHECK.due("what the last year taught counts", x.person(1, 1), 2);
        CHECK.due("he is 12", x.person(1, 0), 12);
        CHECK.due("an OPENED one grows no older", x.person(2, 0), 11);
        CHECK.due("none is left", x.year(), 0);
        CHECK.due("an OPENED one learns no more", x.level(1, 1), 3);
        CHECK.due("an OPENED one grows no older", x.person(1, 0), 12);
        CHECK.due("the year", x.about(5), 3);
        CHECK.due("ACTS", x.about(8), 5);
        x = Check.town("parish p;person a of p age 30;open 5;");
        CHECK.due("older than open: not yet", x.person(0, 1), 0);
        CHECK.due("older than open: the next YEAR", x.year(), 1);
        x = Check.town("skill s;order x asks s 0;order y asks s 0;parish p;parish q;odds p x 1;odds q y 1;"
            + "person a of q age 1;person b of p age 1;person c of q age 1;undoes x y;open 2;");
        CHECK.due("three in one YEAR", x.year(), 3);
        CHECK.due("ahead of x", x.person(0, 1), 2);
        CHECK.due("x", x.person(1, 1), 2);
        CHECK.due("behind x", x.person(2, 1), 3);
        x = new FortyLetters();
        for (int i = 1; i <= 500; i++) {
            CHECK.due("a YEAR without any", x.year(), 0);
        }
        CHECK.due("500 YEARS", x.about(5), 500);
        for (int i = 501; i <= 999; i++) {
            x.year();
        }
        CHECK.due("behind 999 YEARS", x.year(), -1);
        CHECK.due("the year stays", x.about(5), 999);
        x.undo();
        CHECK.due("that was no ACT", x.about(5), 998);
    }

    /** What a first YEAR adds to a level of 3 in SKILL 1 at age 7, two YEARS having gone. */
    private static void gains(String formula, int want) {
        FortyLetters x = Check.town("skill s;skill t;parish p;person a of p age 5 t 3;teach " + formula + ";");
        x.year();
        x.year();
        x.prepare(0, 1);
        x.year();
        CHECK.due("teach " + formula, x.level(0, 1) - 3, want);
    }

    private static void formulas() {
        gains("level", 3);
        gains("age", 7);
        gains("year", 2);
        gains("which", 1);
        gains("9", 9);
        gains("10", 9);
        gains("9999", 9);
        gains("0-1", 0);
        gains("8-3-2", 3);
        gains("8-(3-2)", 7);
        gains("1+2*3", 7);
        gains("(1+2)*3", 9);
        gains("7/2", 3);
        gains("8/2/2", 2);
        gains("7%4", 3);
        gains("7/0+1", 1);
        gains("7%0+2", 2);
        gains("(0-7)/2+5", 2);
        gains("(0-7)%4+5", 2);
        gains("7*7%5", 4);
        gains("7%5*7", 9);
        gains("1<2", 1);
        gains("2<2", 0);
        gains("3>2", 1);
        gains("2>2", 0);
        gains("2=2", 1);
        gains("2=3", 0);
        gains("1+1=2", 1);
        gains("not 0", 1);
        gains("not 7", 0);
        gains("not 1=2", 1);
        gains("not not 5", 1);
        gains("5 and 3", 1);
        gains("5 and 0", 0);
        gains("0 and 5", 0);
        gains("5 or 0", 1);
        gains("0 or 5", 1);
        gains("0 or 0", 0);
        gains("1 or 0 and 0", 1);
        gains("(1 or 0) and 0", 0);
        gains("not 1 or 1", 1);
        gains("not (1 or 1)", 0);
        gains("2*(5 or 0)", 2);
        gains("9999*9999*9999*9999%10", 9999 * 9999 * 9999 * 9999 % 10);
        gains("9999*9999*99%7+7", 9999 * 9999 * 99 % 7 + 7);
        gains("9999*9999*22<0", 1);
        gains("(8192*8192*32)/(0-1)<0", 1);
        FortyLetters x = Check.town("skill s;parish p;person a of p age 5 s 18;teach 9;");
        x.prepare(0, 0);
        x.year();
        CHECK.due("20 in all", x.level(0, 0), 20);
        x = Check.town("skill s;parish p;person a of p age 5 s 18;");
        x.prepare(0, 0);
        x.year();
        CHECK.due("1 if teach is not told", x.level(0, 0), 19);
    }

    private static void undoRedo() {
        FortyLetters x = Check.town(TOWN);
        CHECK.due("nothing to undo", x.undo(), false);
        CHECK.due("nothing to redo", x.redo(), false);
        x.prepare(0, 1);
        x.steam(1);
        x.swap(0, 2);
        x.year();
        x.year();
        CHECK.due("all OPENED", x.many(0) + x.many(1), 0);
        CHECK.due("undo", x.undo(), true);
        CHECK.due("none OPENED", x.many(0), 2);
        CHECK.due("the year", x.about(5), 1);
        CHECK.due("age", x.person(0, 0), 11);
        CHECK.due("level", x.level(0, 1), 1);
        CHECK.due("undo", x.undo(), true);
        CHECK.due("level", x.level(0, 1), 0);
        CHECK.due("undo", x.undo(), true);
        CHECK.due("his own LETTER", x.person(0, 4), 0);
        CHECK.due("two are left", x.about(8), 2);
        CHECK.due("three to redo", x.about(9), 3);
        CHECK.due("redo", x.redo(), true);
        CHECK.due("the other's LETTER", x.person(0, 4), -1);
        CHECK.due("undo", x.undo(), true);
        CHECK.due("undo", x.undo(), true);
        CHECK.due("SEALED again", x.person(1, 1), 0);
        CHECK.due("undo", x.undo(), true);
        CHECK.due("prepares none", x.person(0, 2), -1);
        CHECK.due("undo of none", x.undo(), false);
        for (int i = 0; i < 5; i++) {
            CHECK.due("redo", x.redo(), true);
        }
        CHECK.due("redo of none", x.redo(), false);
        CHECK.due("all OPENED again", x.many(0) + x.many(1), 0);
        x.undo();
        x.undo();
        x.prepare(0, 0);
        CHECK.due("another ACT ends it", x.redo(), false);
        CHECK.due("to redo", x.about(9), 0);
        CHECK.due("to undo", x.about(8), 4);
        x.undo();
        CHECK.due("what it was", x.person(0, 2), 1);
    }

    private static void mostActs() {
        FortyLetters x = Check.town(TOWN);
        for (int i = 0; i < 45; i++) {
            x.prepare(0, i % 2);
            x.prepare(1, i % 2);
        }
        CHECK.due("40 at most", x.about(8), 40);
        for (int i = 0; i < 40; i++) {
            CHECK.due("undo", x.undo(), true);
        }
        CHECK.due("the oldest are gone", x.undo(), false);
        CHECK.due("they stay done", x.person(0, 2), 0);
        CHECK.due("to redo", x.about(9), 40);
        for (int i = 0; i < 40; i++) {
            CHECK.due("redo", x.redo(), true);
            CHECK.due("kept in all", x.about(8) + x.about(9), 40);
        }
        CHECK.due("redo of none", x.redo(), false);
        x.undo();
        x.undo();
        x.undo();
        x.steam(0);
        CHECK.due("38 then", x.about(8), 38);
    }

    private static void eachActIsKept() {
        FortyLetters x = new FortyLetters();
        for (int acts = 1; acts <= 95; acts++) {
            x.year();
            CHECK.due("kept", x.about(8), Math.min(40, acts));
        }
        for (int i = 1; i <= 40; i++) {
            x.undo();
            CHECK.due("back by " + i, x.about(5), 95 - i);
            CHECK.due("to redo", x.about(9), i);
        }
        for (int i = 1; i <= 30; i++) {
            x.redo();
            CHECK.due("on by " + i, x.about(5), 55 + i);
        }
        x.year();
        CHECK.due("none to redo", x.about(9), 0);
        CHECK.due("31 are kept", x.about(8), 31);
        for (int i = 1; i <= 31; i++) {
            x.undo();
            CHECK.due("back again by " + i, x.about(5), 86 - i);
        }
        CHECK.due("no more", x.undo(), false);
    }

    private static void refusedActs() {
        FortyLetters x = Check.town(TOWN);
        x.opens(0);
        x.steam(1);
        x.undo();
        x.prepare(0, 0);
        x.steam(0);
        x.swap(0, 1);
        x.forge(0, 1);
        x.opens(0);
        CHECK.due("what is refused is no ACT", x.about(9), 1);
        CHECK.due("so redo still stands", x.redo(), true);
        CHECK.due("STEAMED", x.person(1, 1), 1);
    }
}
