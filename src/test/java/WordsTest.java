/** The plain sentences of the document, those that name no boundary (what bounds them is in the *BoundsTest), tested one by one. */
public final class WordsTest {
    private static final Check CHECK = new Check("WordsTest");
    /** a holds x, b holds y, c is BLANK. */
    private static final String THREE = "skill s;skill t;order x asks s 2 seal 3 weight 4 worth 5;order y asks t 3 seal 6 weight 7 worth 8;"
        + "parish p;parish q;parish r;odds p x 6;odds q y 9;"
        + "person a of p age 37 s 1;person b of q age 38 t 2;person c of r age 39;";

    public static void main(String[] args) {
        lines();
        namedLines();
        onceToldLines();
        ors();
        ands();
        nots();
        sums();
        terms();
        units();
        noToken();
        letters();
        acts();
        ahead();
        persons();
        orders();
        swap();
        actsAreActs();
        life();
        hope();
        first();
        rings();
        law();
        about();
        none();
        CHECK.finish();
    }

    /** The line stands; without any one of its words (but "not"), or with any one of them twice, it does not. */
    private static void line(String ahead, String line) {
        CHECK.dueTown(ahead + line, line.startsWith("person") ? 1 : 0);
        String[] words = line.split(" ");
        for (int i = 0; i < words.length; i++) {
            if (!words[i].equals("not")) {
                faulty(ahead + joined(words, i, 0));
                faulty(ahead + joined(words, i, 2));
            }
        }
    }

    private static String joined(String[] words, int place, int times) {
        StringBuilder text = new StringBuilder();
        for (int i = 0; i < words.length; i++) {
            text.append((words[i] + " ").repeat(i == place ? times : 1));
        }
        return text.toString();
    }

    private static void faulty(String text) {
        FortyLetters x = new FortyLetters();
        Check.feed(x, text);
        CHECK.due("town() of " + text, x.town(), -1);
    }

    private static void lines() {
        CHECK.says(0, "town = {line}.");
        CHECK.dueTown(" \n", 0);
        CHECK.dueTown("draw 3;skill s;open 5;parish p;teach 1;person a of p age 3;parish q;skill t;person b of q age 4 t 1;", 2);
        CHECK.dueFault(";", 2, 0);
        CHECK.dueFault("skill s;;", 2, 8);
        CHECK.dueFault("parish p parish q;", 2, 9);
        CHECK.dueFault("asks", 2, 0);
    }

    private static void namedLines() {
        CHECK.says(0, "line = skill NAME ;");
        line("", "skill s ;");
        CHECK.says(0, "order NAME asks NAME N [seal N] [weight N] [worth N] ;");
        line("skill s;", "order x asks s 1 ;");
        line("skill s;", "order x asks s 1 seal 2 weight 3 worth 4 ;");
        CHECK.says(0, "parish NAME ;");
        line("", "parish p ;");
        CHECK.says(0, "odds NAME NAME N ;");
        line("skill s;order x asks s 1;parish p;", "odds p x 3 ;");
        CHECK.says(0, "person NAME of NAME age N {NAME N} ;");
        line("skill s;skill t;parish p;", "person a of p age 3 ;");
        line("skill s;skill t;parish p;", "person a of p age 3 t 4 s 5 ;");
        CHECK.says(0, "undoes NAME NAME ;");
        line("skill s;order x asks s 1;order y asks s 1;", "undoes x y ;");
    }

    private static void onceToldLines() {
        CHECK.says(0, "teach e ;");
        line("", "teach level ;");
        line("", "teach not age or ( year + 3 ) * 2 and which < 5 ;");
        CHECK.says(0, "open N ;");
        line("", "open 7 ;");
        CHECK.due("told", Check.town("open 7;").about(7), 7);
        CHECK.says(0, "draw N ;.");
        line("", "draw 7 ;");
        CHECK.due("told", Check.town("draw 7;").about(6), 7);
    }

    /** What a formula teaches one of age 5 with 3 of the second SKILL in year 0. */
    private static void teaches(String formula, int due) {
        FortyLetters x = Check.town("skill s;skill t;parish p;person a of p age 5 t 3;teach " + formula + ";");
        x.prepare(0, 1);
        x.year();
        CHECK.due(formula, x.level(0, 1) - 3, due);
    }

    private static void ors() {
        CHECK.says(0, "e = both {or both}.");
        teaches("0 or 0", 0);
        teaches("0 or 7", 1);
        teaches("0 or 0 or 7", 1);
        teaches("1 or 0 and 0", 1);
        teaches("(1 or 0) and 0", 0);
    }

    private static void ands() {
        CHECK.says(0, "both = one {and one}.");
        teaches("7 and 8", 1);
        teaches("7 and 8 and 0", 0);
        teaches("2 and 3 < 1", 0);
        teaches("(2 and 3) < 2", 1);
        teaches("0 and 0 or 1", 1);
    }

    private static void nots() {
        CHECK.says(0, "one = not one | sum [(< | > | =) sum].");
        teaches("not 7", 0);
        teaches("not not 7", 1);
        teaches("not 2 < 1", 1);
        teaches("(not 2) < 1", 1);
        teaches("not 2 > 0", 0);
        teaches("(not 2) = 0", 1);
        teaches("not 1 and 0", 0);
        teaches("not (1 and 0)", 1);
        teaches("1 + 2 = 2 + 1", 1);
        teaches("1 + 2 > 2 + 1", 0);
        CHECK.dueFault("teach 1 + not 2;", 2, 10);
        CHECK.dueFault("teach 1 < 2 > 3;", 2, 12);
    }

    private static void sums() {
        CHECK.says(0, "sum = term {(+ | -) term}.");
        teaches("9 - 4 - 3", 2);
        teaches("9 - (4 - 3)", 8);
        teaches("9 - 4 + 3", 8);
        teaches("1 + 2 * 3", 7);
        CHECK.dueFault("teach -1;", 2, 6);
    }

    private static void terms() {
        CHECK.says(0, "term = unit {(* | / | %) unit}.");
        teaches("24 / 4 / 3", 2);
        teaches("24 / (9 / 3)", 8);
        teaches("7 / 2 * 2", 6);
        teaches("3 * 7 % 5", 1);
        teaches("3 * (7 % 5)", 6);
        teaches("17 % 10 / 2", 3);
        teaches("(3 + 1) * 2", 8);
    }

    private static void units() {
        CHECK.says(0, "unit = N | level | age | year | which | ( e ).");
        teaches("8", 8);
        teaches("level", 3);
        teaches("age", 5);
        teaches("year", 0);
        teaches("which", 1);
        teaches("(0 or 1)", 1);
        CHECK.dueFault("teach ();", 2, 7);
        CHECK.dueFault("teach skill;", 2, 6);
        CHECK.dueFault("teach s;", 2, 6);
        CHECK.says(0, "60 units in all,");
        CHECK.due("30 stand", Check.town("teach 1" + "+1".repeat(29) + ";").about(13), 30);
        CHECK.due("each TOWN has its own", Check.town("teach level*(age-2);").about(13), 4);
    }

    private static void noToken() {
        CHECK.says(0, "1 no TOKEN;");
        for (int sign = 0; sign < 256; sign++) {
            boolean isPassed = " \n0123456789".indexOf(sign) >= 0;
            boolean isToken = "abcdefghijklmnopqrstuvwxyz;()<>=+-*/%".indexOf(sign) >= 0;
            CHECK.dueFault("draw " + (char) sign, isPassed || isToken ? 2 : 1, isPassed ? 6 : 5);
        }
    }

    private static void letters() {
        CHECK.says(0, "A LETTER holds an ORDER, or is BLANK. At first, PERSON by PERSON,");
        FortyLetters x = Check.town(THREE);
        int[] due = {0, 1, -1};
        for (int person = 0; person < 3; person++) {
            CHECK.due("held by " + person, x.person(person, 4), due[person]);
        }
        CHECK.says(0, "It is SEALED, then STEAMED (he knows what it holds), DONE, FAILED, or FREE.");
        CHECK.due("SEALED", x.person(0, 1), 0);
        x.prepare(0, 0);
        x.steam(0);
        CHECK.due("STEAMED", x.person(0, 1), 1);
        x.opens(0);
        CHECK.due("FAILED", x.person(0, 1), 3);
        x.undo();
        x.year();
        x.opens(0);
        CHECK.due("DONE", x.person(0, 1), 2);
        CHECK.due("FREE", x.person(2, 1), 4);
    }

    private static void acts() {
        CHECK.says(0, "a LETTER is STEAMED;");
        FortyLetters x = Check.town(THREE);
        x.steam(1);
        CHECK.due("it alone", x.many(1), 1);
        CHECK.due("it holds what it held", x.person(1, 4), 1);
        CHECK.says(0, "one is OPENED;");
        x.opens(1);
        CHECK.due("it alone", x.many(0), 2);
        CHECK.due("no year goes", x.about(5), 0);
        CHECK.due("nothing is learned", x.level(1, 1), 2);
        CHECK.says(0, "a YEAR:");
        x.prepare(0, 1);
        x.year();
        CHECK.due("the year", x.about(5), 1);
        CHECK.due("older", x.person(0, 0), 38);
        CHECK.says(0, "the SKILL that he prepares is more by");
        CHECK.due("that SKILL", x.level(0, 1), 1);
        CHECK.due("no other one", x.level(0, 0), 1);
        CHECK.due("he prepares it still", x.person(0, 2), 1);
    }

    private static void ahead() {
        String text = "skill s;skill t;order x asks s 1 worth 2;order y asks t 2 worth 7;parish p;odds p x 1;odds p y 3;"
            + "person a of p age 38 s 1;person b of p age 38 t 2;";
        FortyLetters x = Check.town(text);
        CHECK.says(0, "ODDS of a PERSON: what he knows of his LETTER");
        CHECK.due("a could do x", x.odds(0, 0) * 10 + x.odds(0, 1), 14);
        CHECK.due("b could do y", x.odds(1, 0) * 10 + x.odds(1, 1), 34);
        CHECK.says(0, "how much of that he CAN do");
        x.prepare(0, 1);
        CHECK.due("both then", x.odds(0, 0) * 10 + x.odds(0, 1), 11);
        CHECK.says(0, "so that his ODDS are greatest;");
        CHECK.due("all", x.life(0), 4);
        CHECK.dueLying(x, "0 2");
        CHECK.due("all, one year each suffices him", x.life(1), 4);
        CHECK.dueLying(x, "1 1");
        x.forge(0, 1);
        x.forge(1, 0);
        CHECK.says(0, "RINGS: LETTERS that are not OPENED,");
        CHECK.due("both change", x.rings(), 9);
        CHECK.dueLying(x, "1 0");
        CHECK.says(0, "and all together have most;");
        x.forge(1, 1);
        CHECK.due("one has 7, the other none either way", x.rings(), 7);
        CHECK.dueLying(x, "0 1");
        CHECK.says(0, "OPENING of a set of PERSONS whose LETTERS are not OPENED:");
        CHECK.due("b alone", x.opening(2), 1);
        CHECK.dueLying(x, "1");
        CHECK.due("both", x.opening(3), 1);
        CHECK.dueLying(x, "0 1");
        CHECK.says(0, "LAW of an ORDER for another one:");
        CHECK.due("b would do x no more", x.law(1, 0), -1);
        x.prepare(0, -1);
        CHECK.due("b would not, but a would", x.law(1, 0), 0);
        CHECK.due("none holds x", x.law(0, 1), 0);
    }

    private static void persons() {
        FortyLetters x = Check.town(THREE);
        CHECK.says(6, "Of a PERSON what 0: his age,");
        for (int person = 0; person < 3; person++) {
            CHECK.due("age of " + person, x.person(person, 0), 37 + person);
        }
        CHECK.says(6, "3: his PARISH,");
        for (int person = 0; person < 3; person++) {
            CHECK.due("PARISH of " + person, x.person(person, 3), person);
        }
        CHECK.says(7, "His level in a SKILL;");
        CHECK.due("told", x.level(0, 0), 1);
        CHECK.due("not told", x.level(0, 1), 0);
        CHECK.due("told for another", x.level(1, 1), 2);
        CHECK.says(10, "How many LETTERS are so");
        CHECK.due("SEALED", x.many(0), 3);
        x.steam(2);
        CHECK.due("SEALED", x.many(0), 2);
        CHECK.due("STEAMED", x.many(1), 1);
    }

    private static void orders() {
        FortyLetters x = Check.town(THREE);
        CHECK.says(8, "Of an ORDER what 0: the SKILL for which it asks, 1: its level, 2: seal, 3: weight, 4: worth,");
        int[][] due = {{0, 2, 3, 4, 5}, {1, 3, 6, 7, 8}};
        for (int order = 0; order < 2; order++) {
            for (int what = 0; what < 5; what++) {
                CHECK.due("order(" + order + ", " + what + ")", x.order(order, what), due[order][what]);
            }
        }
    }

    private static void swap() {
        CHECK.says(14, "Two LETTERS are swapped: whether;");
        FortyLetters x = Check.town(THREE);
        CHECK.due("swap", x.swap(0, 2), true);
        CHECK.due("a", x.person(0, 4), -1);
        CHECK.due("b", x.person(1, 4), 1);
        CHECK.due("c", x.person(2, 4), 0);
    }

    private static void actsAreActs() {
        FortyLetters x = Check.town(THREE);
        CHECK.says(12, "(An ACT.)");
        x.prepare(0, 0);
        kept(x, 1);
        CHECK.says(13, "(An ACT.)");
        x.steam(0);
        kept(x, 2);
        CHECK.says(14, "(An ACT.)");
        x.swap(0, 1);
        kept(x, 3);
        CHECK.says(15, "(An ACT.)");
        x.forge(0, 1);
        kept(x, 4);
        CHECK.says(16, "(An ACT.)");
        x.opens(0);
        kept(x, 5);
        CHECK.says(17, "(An ACT.)");
        x.year();
        kept(x, 6);
    }

    /** So many ACTS are kept; the latest can be taken back, and done again. */
    private static void kept(FortyLetters x, int acts) {
        CHECK.due("ACTS kept", x.about(8), acts);
        CHECK.due("none to do again", x.about(9), 0);
        CHECK.due("undo()", x.undo(), true);
        CHECK.due("one to do again", x.about(9), 1);
        CHECK.due("redo()", x.redo(), true);
        CHECK.due("ACTS kept then", x.about(8), acts);
    }

    private static void life() {
        FortyLetters x = Check.town("skill s;skill t;order x asks s 2;order y asks t 1;order z asks t 9;parish p;"
            + "odds p x 4;odds p y 2;odds p z 6;person a of p age 38;person b of p age 37;");
        CHECK.says(21, "LIFE: how many parts of all odds of his PARISH");
        CHECK.due("4 of 12, not 1 of 3", x.life(0), 4);
        CHECK.dueLying(x, "2 0");
        CHECK.says(21, "he CAN do then;");
        CHECK.due("a year more", x.life(1), 6);
        CHECK.dueLying(x, "2 1");
    }

    private static void hope() {
        FortyLetters x = Check.town(THREE);
        x.prepare(0, 0);
        CHECK.says(22, "HOPE of a PERSON:");
        CHECK.due("a will do x", x.hope(0, 0), 5);
        CHECK.due("b will not do y", x.hope(1, 0), 0);
        CHECK.says(22, "the upper part (0), the lower part (1),");
        FortyLetters y = Check.town("skill s;order x asks s 0 worth 3;order y asks s 9;parish p;odds p x 2;odds p y 7;person a of p age 1;");
        CHECK.due("upper", y.hope(0, 0), 2);
        CHECK.due("lower", y.hope(0, 1), 3);
    }

    private static void first() {
        CHECK.says(27, "FIRST what 0: the PERSON,");
        FortyLetters x = Check.town(THREE);
        CHECK.due("b is the older one", x.first(0), 1);
        x.prepare(1, 1);
        CHECK.due("a is left", x.first(0), 0);
        x.prepare(0, 0);
        CHECK.due("none is left", x.first(0), -1);
    }

    private static void rings() {
        CHECK.says(28, "RINGS: what all have together.");
        FortyLetters x = Check.town(THREE);
        CHECK.due("the BLANK alone", x.rings(), 1);
        CHECK.dueLying(x, "0 1 2");
        x.prepare(0, 0);
        x.year();
        CHECK.due("x, no BLANK now: c's is OPENED", x.rings(), 5);
        CHECK.dueLying(x, "0 1 -1");
    }

    private static void law() {
        CHECK.says(30, "LAW;");
        FortyLetters x = Check.town(THREE);
        x.prepare(1, 0);
        CHECK.due("b would do x", x.law(1, 0), 1);
        CHECK.due("a would not do y", x.law(0, 1), 0);
        x.prepare(0, 0);
        CHECK.due("a would do x no more", x.law(0, 1), -1);
    }

    private static void about() {
        CHECK.says(40, "What 0: PERSONS, 1: SKILLS, 2: ORDERS, 3: PARISHES, 4: undoes, 5: the year,");
        FortyLetters x = Check.town("skill s;skill t;order x asks s 1;order y asks t 2;order z asks t 1;parish p;"
            + "undoes x y;undoes y x;undoes z x;undoes x z;teach 1+year;"
            + "person a of p age 1;person b of p age 2;person c of p age 3;person d of p age 4;person e of p age 5;");
        for (int i = 0; i < 6; i++) {
            x.year();
        }
        int[] due = {5, 2, 3, 1, 4, 6};
        for (int what = 0; what < due.length; what++) {
            CHECK.due("about(" + what + ")", x.about(what), due[what]);
        }
        CHECK.says(40, "10: SIGNS, 11: the TIME, 12: bytes on the TAPE, 13: units, 14: how many lie there.");
        x.sign(0, 0, 0, true);
        x.later(7);
        Check.feed(x, "skill s;");
        x.rings();
        int[] then = {1, 7, 8, 2, 5};
        for (int what = 10; what < 15; what++) {
            CHECK.due("about(" + what + ")", x.about(what), then[what - 10]);
        }
    }

    private static void none() {
        CHECK.says(0, "The constants: `NONE = -1`: There is none.");
        CHECK.due("NONE", FortyLetters.NONE, -1);
    }
}
