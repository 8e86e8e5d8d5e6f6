/** Each sentence that bounds SIGNS, images and what about() tells (chapter 4, promises 32 to 40), tested by itself. */
public final class SignBoundsTest {
    private static final Check CHECK = new Check("SignBoundsTest");
    private static final int MIN = Integer.MIN_VALUE;
    private static final int MAX = Integer.MAX_VALUE;
    private static final String TOWN = "skill s;skill t;order a asks s 1 seal 0 weight 9;order b asks t 1 seal 9 weight 9;"
        + "order c asks t 1 seal 9 weight 0;order d asks s 1 seal 3 weight 6;parish p;parish q;"
        + "odds p a 1;odds p b 9;odds p c 9;person x of p age 39;person y of q age 39;person z of p age 39;";

    public static void main(String[] args) {
        thirtySigns();
        twoTimes();
        isOrIsNot();
        asKnown();
        meantHasOdds();
        askOfLikeOnes();
        sign();
        untell();
        later();
        meant();
        likely();
        ask();
        image();
        back();
        about();
        CHECK.finish();
    }

    private static void thirtySigns() {
        CHECK.says(0, "SIGNS, 30 at most");
        FortyLetters x = Check.town(TOWN);
        for (int i = 0; i < 30; i++) {
            CHECK.due("told", x.sign(0, 0, 9, false), i);
        }
        CHECK.due("one too many", x.sign(0, 1, 9, false), -1);
        CHECK.due("30", x.about(10), 30);
        CHECK.due("what was refused does not count", x.meant(0, 0), 1);
        x.town();
        Check.feed(x, TOWN);
        x.town();
        CHECK.due("told of another TOWN", x.sign(0, 0, 9, true), 0);
    }

    private static void twoTimes() {
        CHECK.says(0, "are TOLD at a TIME (0 at first, goes on), UNTOLD at a later one or the same");
        FortyLetters x = Check.town(TOWN);
        CHECK.due("0 at first", x.about(11), 0);
        x.sign(0, 0, 9, true);
        CHECK.due("known at 0", x.meant(0, 0), 6);
        CHECK.due("UNTOLD at the same", x.untell(0), true);
        CHECK.due("known at 0", x.meant(0, 0), 7);
        x.later(1);
        x.sign(0, 0, 9, true);
        x.later(1);
        CHECK.due("UNTOLD at a later one", x.untell(1), true);
        CHECK.due("known at 1", x.meant(0, 1), 6);
        CHECK.due("known at 2", x.meant(0, 2), 7);
    }

    private static void isOrIsNot() {
        CHECK.says(0, "of the LETTER of a PERSON its seal (0), its weight (1), the SKILL that it asks for (2: its number) is a number, or is not.");
        int[][] due = {{0, 0, 1, 6}, {0, 9, 6, 1}, {0, 5, 0, 7}, {1, 9, 3, 4}, {1, 0, 4, 3}, {2, 0, 1, 6}, {2, 1, 6, 1}, {2, 9, 0, 7}};
        for (int[] row : due) {
            FortyLetters x = Check.town(TOWN);
            x.sign(0, row[0], row[1], true);
            CHECK.due(row[0] + " is " + row[1], x.meant(0, 0), row[2]);
            CHECK.due("of another PERSON", x.meant(2, 0), 7);
            x.sign(2, row[0], row[1], false);
            CHECK.due(row[0] + " is not " + row[1], x.meant(2, 0), row[3]);
        }
    }

    private static void asKnown() {
        CHECK.says(0, "As known at k those count that were TOLD at k or before, not UNTOLD at k or before.");
        FortyLetters x = Check.town(TOWN);
        x.later(3);
        x.sign(0, 0, 9, true);
        x.later(4);
        x.untell(0);
        x.later(2);
        x.sign(0, 2, 0, true);
        int[][] due = {{MIN, 7}, {-1, 7}, {0, 7}, {2, 7}, {3, 6}, {4, 6}, {6, 6}, {7, 7}, {8, 7}, {9, 1}, {10, 1}, {100000, 1}, {MAX, 1}};
        for (int[] row : due) {
            CHECK.due("known at " + row[0], x.meant(0, row[0]), row[1]);
        }
        x.sign(0, 1, 9, false);
        CHECK.due("two count", x.meant(0, 9), 0);
        CHECK.due("neither ahead of its TIME", x.meant(0, 8), 7);
        x.untell(1);
        CHECK.due("one is left", x.meant(0, 9), 4);
    }

    private static void meantHasOdds() {
        CHECK.says(0, "MEANT: ORDERS for which his PARISH has odds by which all of him that count are so.");
        FortyLetters x = Check.town(TOWN);
        CHECK.due("without SIGNS all that have odds", x.meant(0, 0), 7);
        CHECK.due("without odds none", x.meant(1, 0), 0);
        x.sign(0, 0, 3, true);
        CHECK.due("one without odds is not", x.meant(0, 0), 0);
        x.sign(2, 0, 9, true);
        x.sign(2, 1, 9, true);
        CHECK.due("all of them", x.meant(2, 0), 2);
        x.sign(2, 2, 0, true);
        CHECK.due("all three of them", x.meant(2, 0), 0);
        x.untell(3);
        x.forge(2, 3);
        CHECK.due("whatever it holds", x.meant(2, 0), 2);
        x.opens(2);
        CHECK.due("and whatever became of it", x.meant(2, 0), 2);
    }

    private static void askIs(FortyLetters x, int person, int which, int left) {
        CHECK.due("ask(" + person + ", 0)", x.ask(person, 0, 0), which);
        CHECK.due("ask(" + person + ", 1)", x.ask(person, 1, 0), left);
    }

    /** Of a town in which the traits seal, weight, SKILL of each ORDER are these. */
    private static void asked(int which, int left, String... traits) {
        StringBuilder text = new StringBuilder("skill s;skill t;skill u;parish p;");
        for (int i = 0; i < traits.length; i++) {
            char name = (char) ('a' + i);
            text.append("order ").append(name).append(" asks ").append("stu".charAt(traits[i].charAt(2) - '0')).append(" 1 seal ");
            text.append(traits[i].charAt(0)).append(" weight ").append(traits[i].charAt(1)).append(";odds p ").append(name).append(" 1;");
        }
        askIs(Check.town(text + "person x of p age 1;"), 0, which, left);
    }

    private static void askOfLikeOnes() {
        CHECK.says(0, "ASK: which of the three to see would leave the fewest of these at the most; of like ones the first.");
        asked(0, 1, "000");
        asked(0, 2, "000", "000");
        asked(0, 1, "000", "111");
        asked(0, 1, "000", "100", "211");
        asked(1, 1, "000", "010", "121");
        asked(2, 1, "000", "001", "112");
        asked(2, 1, "000", "001", "012");
        asked(1, 2, "000", "010", "021", "021");
        // as many at the most, however few there are of the others
        asked(0, 2, "000", "001", "112", "112");
        asked(0, 2, "000", "001", "111", "222");
        asked(1, 2, "000", "000", "010", "131", "142");
        asked(0, 8, "000", "000", "000", "000", "000", "000", "000", "000");
        asked(0, 1, "000", "100", "200", "300", "400", "500", "600", "900");
    }

    private static void sign() {
        CHECK.says(32, "A SIGN (what 0 .. 2, a number 0 .. 9): its number");
        FortyLetters x = Check.town(TOWN);
        CHECK.due("the least", x.sign(0, 0, 0, true), 0);
        CHECK.due("the most", x.sign(2, 2, 9, false), 1);
        CHECK.due("told already, all the same", x.sign(2, 2, 9, false), 2);
        CHECK.due("the opposite, all the same", x.sign(2, 2, 9, true), 3);
        x.opens(0);
        CHECK.due("of an OPENED one", x.sign(0, 1, 1, true), 4);

        CHECK.says(32, "NONE, doing nothing, if one can't be, or there are 30.");
        int[][] refused = {{3, 0, 0}, {-1, 0, 0}, {0, 3, 0}, {0, -1, 0}, {0, 0, 10}, {0, 0, -1}, {MIN, 0, 0}, {MAX, 0, 0}, {0, MIN, 0},
            {0, MAX, 0}, {0, 0, MIN}, {0, 0, MAX}};
        for (int[] row : refused) {
            CHECK.due("sign(" + row[0] + ", " + row[1] + ", " + row[2] + ", true)", x.sign(row[0], row[1], row[2], true), -1);
            CHECK.due("sign(" + row[0] + ", " + row[1] + ", " + row[2] + ", false)", x.sign(row[0], row[1], row[2], false), -1);
        }
        CHECK.due("five are told", x.about(10), 5);
        for (int i = 5; i < 30; i++) {
            x.sign(1, 0, 0, true);
        }
        CHECK.due("there are 30", x.sign(1, 0, 0, true), -1);
        x.untell(29);
        CHECK.due("there are still", x.sign(1, 0, 0, true), -1);
        CHECK.due("30", x.about(10), 30);
        CHECK.due("no ACTS but one", x.about(8), 1);
    }

    private static void untell() {
        CHECK.says(33, "It is UNTOLD: true; false if it is so already, or there is none such.");
        FortyLetters x = Check.town(TOWN);
        CHECK.due("none is told", x.untell(0), false);
        x.sign(0, 0, 9, true);
        x.sign(0, 1, 9, true);
        int[] refused = {2, -1, 30, MIN, MAX};
        for (int sign : refused) {
            CHECK.due("untell(" + sign + ")", x.untell(sign), false);
        }
        CHECK.due("the last", x.untell(1), true);
        CHECK.due("so already", x.untell(1), false);
        x.later(5);
        CHECK.due("and later, too", x.untell(1), false);
        CHECK.due("it was UNTOLD at 0", x.meant(0, 0), 6);
        CHECK.due("the first", x.untell(0), true);
        for (int i = 2; i < 30; i++) {
            x.sign(0, 0, 9, true);
        }
        CHECK.due("the last of 30", x.untell(29), true);
        CHECK.due("there is no SIGN 30", x.untell(30), false);
        CHECK.due("all are SIGNS still", x.about(10), 30);
    }

    private static void later() {
        CHECK.says(34, "So much later (0 .. 1000): the TIME; NONE, doing nothing, for another number, or if it would be above 100,000.");
        FortyLetters x = new FortyLetters();
        int[] refused = {-1, 1001, MIN, MAX};
        for (int by : refused) {
            CHECK.due("later(" + by + ")", x.later(by), -1);
        }
        CHECK.due("0", x.later(0), 0);
        CHECK.due("1", x.later(1), 1);
        for (int time = 1001; time <= 99001; time += 1000) {
            CHECK.due("1000", x.later(1000), time);
        }
        CHECK.due("100,001 is too late", x.later(1000), -1);
        CHECK.due("doing nothing", x.about(11), 99001);
        CHECK.due("100,000 is not", x.later(999), 100000);
        CHECK.due("0 more", x.later(0), 100000);
        CHECK.due("1 more", x.later(1), -1);
        for (int by : refused) {
            CHECK.due("later(" + by + ")", x.later(by), -1);
        }
        CHECK.due("the TIME", x.about(11), 100000);
        Check.feed(x, TOWN);
        x.town();
        CHECK.due("a town stays at it", x.about(11), 100000);
        x.sign(0, 0, 9, true);
        CHECK.due("known then", x.meant(0, 100000), 6);
        CHECK.due("not ahead", x.meant(0, 99999), 7);
    }

    private static void meant() {
        CHECK.says(35, "MEANT, as bits; NONE if there is none such.");
        FortyLetters x = Check.town(TOWN);
        CHECK.due("three of four", x.meant(2, 0), 7);
        CHECK.due("none", x.meant(1, 0), 0);
        int[] refused = {3, -1, MIN, MAX};
        for (int person : refused) {
            CHECK.due("meant(" + person + ")", x.meant(person, 0), -1);
        }
        StringBuilder all = new StringBuilder("skill s;parish p;");
        for (char name = 'a'; name <= 'h'; name++) {
            all.append("order ").append(name).append(" asks s 0 seal ").append((name - 'a') % 4).append(";odds p ").append(name).append(" 1;");
        }
        x = Check.town(all + "person x of p age 1;");
        CHECK.due("all eight", x.meant(0, 0), 255);
        x.sign(0, 0, 3, true);
        CHECK.due("the last", x.meant(0, 0), 136);
    }

    private static void likely() {
        CHECK.says(36, "The ORDER of the greatest odds of those that are MEANT; of like ones the first; NONE if none is, or there is none such.");
        FortyLetters x = Check.town(TOWN);
        CHECK.due("of like ones the first", x.likely(0, 0), 1);
        x.sign(0, 1, 9, false);
        CHECK.due("the other of like ones", x.likely(0, 0), 2);
        x.sign(2, 0, 0, true);
        CHECK.due("one of least odds", x.likely(2, 0), 0);
        CHECK.due("as known ahead of it", x.likely(2, -1), 1);
        x.sign(2, 0, 0, false);
        CHECK.due("none is MEANT", x.likely(2, 0), -1);
        FortyLetters y = Check.town("skill s;order a asks s 1;order b asks s 1;order c asks s 1;parish p;odds p a 8;odds p b 9;odds p c 1;"
            + "person x of p age 1;");
        CHECK.due("neither the first nor the last", y.likely(0, 0), 1);
        int[] refused = {1, 3, -1, MIN, MAX};
        for (int person : refused) {
            CHECK.due("likely(" + person + ")", x.likely(person, 0), -1);
        }
    }

    private static void ask() {
        CHECK.says(37, "ASK what 0: which (0 .. 2), 1: how many are left at the most; NONE if none is MEANT, or one can't be.");
        FortyLetters x = Check.town(TOWN);
        askIs(x, 0, 0, 2);
        int[] refused = {1, 3, -1, MIN, MAX};
        for (int person : refused) {
            askIs(x, person, -1, -1);
        }
        int[] others = {2, -1, MIN, MAX};
        for (int what : others) {
            CHECK.due("ask(0, " + what + ")", x.ask(0, what, 0), -1);
        }
        x.sign(0, 0, 9, true);
        askIs(x, 0, 1, 1);
        CHECK.due("as known ahead of it", x.ask(0, 0, -1), 0);
        CHECK.due("and how many", x.ask(0, 1, -1), 2);
        x.sign(0, 0, 9, false);
        askIs(x, 0, -1, -1);
    }

    private static void image() {
        CHECK.says(38, "are kept in a BOX 0 .. 2: the year; NONE if there is none such.");
        FortyLetters x = Check.town(TOWN);
        int[] refused = {3, -1, 32, -32, MIN, MAX};
        for (int box = 0; box < 3; box++) {
            CHECK.due("image(" + box + ")", x.image(box), box);
            for (int other : refused) {
                CHECK.due("image(" + other + ")", x.image(other), -1);
            }
            x.year();
        }
        CHECK.due("no image is an ACT", x.about(8), 3);
        for (int box = 0; box < 3; box++) {
            CHECK.due("each by itself", x.back(box), box);
            CHECK.due("the year", x.about(5), box);
        }
        CHECK.due("a BOX is kept anew", x.image(0), 2);
        CHECK.due("BOX 1", x.back(1), 1);
        CHECK.due("BOX 0", x.back(0), 2);
    }

    private static void back() {
        CHECK.says(39, "All is as it was kept (no ACTS are kept then): the year");
        FortyLetters x = Check.town(TOWN);
        x.prepare(0, 1);
        x.steam(0);
        x.image(1);
        int holds = x.person(0, 4);
        x.prepare(0, -1);
        x.forge(0, 3);
        x.year();
        x.undo();
        CHECK.due("ACTS", x.about(8) * 10 + x.about(9), 41);
        x.sign(0, 0, 9, true);
        x.later(7);
        x.rings();
        CHECK.due("back", x.back(1), 0);
        int[] due = {39, 1, 1, 0, holds, 0};
        for (int what = 0; what <= 5; what++) {
            CHECK.due("person(0, " + what + ")", x.person(0, what), due[what]);
        }
        CHECK.due("level", x.level(0, 1), 0);
        CHECK.due("no ACTS to undo", x.about(8), 0);
        CHECK.due("undo", x.undo(), false);
        CHECK.due("no ACTS to redo", x.about(9), 0);
        CHECK.due("redo", x.redo(), false);
        CHECK.due("the SIGN stays", x.about(10), 1);
        CHECK.due("the TIME stays", x.about(11), 7);
        CHECK.due("what lies there stays", x.about(14), 3);
        x.year();
        x.undo();
        CHECK.due("UNDO goes no further", x.undo(), false);
        CHECK.due("what is done now does not change the BOX", x.back(1), 0);

        CHECK.says(39, "NONE, doing nothing, if nothing was.");
        x.year();
        x.year();
        x.undo();
        int[] refused = {0, 2, 3, -1, 33, -31, MIN, MAX};
        for (int box : refused) {
            CHECK.due("back(" + box + ")", x.back(box), -1);
        }
        CHECK.due("the year", x.about(5), 1);
        CHECK.due("an ACT is kept", x.about(8), 1);
        CHECK.due("and one to redo", x.about(9), 1);
    }

    private static void about() {
        CHECK.says(40, "6: the SEED behind all LETTERS, 7: the age at which LETTERS are OPENED, 8: ACTS that can be undone, 9: redone");
        FortyLetters x = Check.town("draw 12;open 33;parish p;person a of p age 1;");
        CHECK.due("the SEED", x.about(6), 12 * 137 % 1000 + 71);
        CHECK.due("the age", x.about(7), 33);
        x.year();
        x.steam(0);
        x.undo();
        CHECK.due("the SEED stays", x.about(6), 12 * 137 % 1000 + 71);
        CHECK.due("undone", x.about(8), 1);
        CHECK.due("redone", x.about(9), 1);
        CHECK.says(40, "NONE for another what.");
        int[] refused = {15, -1, 16, MIN, MAX};
        for (int what : refused) {
            CHECK.due("about(" + what + ")", x.about(what), -1);
        }
        CHECK.due("the last", x.about(14), 0);
    }
}
