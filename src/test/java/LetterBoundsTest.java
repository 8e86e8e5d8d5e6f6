/** Each sentence that bounds LETTERS, ACTS and YEARS (chapter 2, promises 6 to 19), tested by itself. */
public final class LetterBoundsTest {
    private static final Check CHECK = new Check("LetterBoundsTest");
    private static final int MIN = Integer.MIN_VALUE;
    private static final int MAX = Integer.MAX_VALUE;
    /** a holds x, b holds y, c is BLANK. */
    private static final String THREE = "skill s;skill t;order x asks s 2;order y asks t 3;parish p;parish q;parish r;odds p x 1;odds q y 1;"
        + "person a of p age 10 s 2;person b of q age 10 t 1;person c of r age 10;";

    public static void main(String[] args) {
        seedWraps();
        restFalls();
        blankWithoutOdds();
        canAtLeast();
        opened();
        undoneByDone();
        preparesNone();
        swappedAreSealed();
        forgedIsSteamed();
        openedOnesRest();
        teachNotTold();
        whatTeachCounts();
        formulas();
        longFormulas();
        gainBounds();
        opensByAge();
        yearGoesUpLast();
        latestAct();
        redoTillAnotherAct();
        fortyActs();
        fullTown();
        person();
        level();
        order();
        share();
        many();
        done();
        prepare();
        steam();
        swap();
        forge();
        opens();
        year();
        undoAndRedo();
        manyCalls();
        CHECK.finish();
    }

    /** The draw from which the first PERSON's SEED becomes this one. */
    private static int drawFor(int seed) {
        int draw = 0;
        while ((draw * 137 + 71) % 1000 != seed) {
            draw++;
        }
        return draw;
    }

    private static void seedWraps() {
        CHECK.says(0, "the SEED (draw, at first) becomes its 137-fold and 71 more, modulo 1,000");
        String one = "parish p;person a of p age 1;draw ";
        int[][] due = {{0, 71}, {1, 208}, {6, 893}, {7, 30}, {817, 0}, {744, 999}, {999, 934}};
        for (int[] row : due) {
            CHECK.due("SEED of draw " + row[0], Check.town(one + row[0] + ";").about(6), row[1]);
        }
        CHECK.due("without PERSONS", Check.town("draw 999;").about(6), 999);
        CHECK.due("of six", Check.town("parish p;person a of p age 1;person b of p age 1;person c of p age 1;person d of p age 1;"
            + "person e of p age 1;person f of p age 1;draw 999;").about(6), sixfold(999));
    }

    private static int sixfold(int draw) {
        long seed = draw;
        for (int i = 0; i < 6; i++) {
            seed = (seed * 137 + 71) % 1000;
        }
        return (int) seed;
    }

    private static void restFalls() {
        CHECK.says(0, "his LETTER holds the ORDER in which its rest by all odds of his PARISH together falls, ORDERS in order, "
            + "each as wide as its odds");
        String three = "skill s;order x asks s 0;order y asks s 0;order z asks s 0;parish q;parish p;odds p z 3;odds p x 2;odds q y 9;"
            + "person a of p age 1;draw ";
        int[] due = {0, 0, 2, 2, 2};
        for (int seed = 0; seed < 1000; seed += 1 + seed / 10 * 30) {
            CHECK.due("SEED " + seed, Check.town(three + drawFor(seed) + ";").person(0, 4), due[seed % 5]);
        }
        CHECK.due("SEED 999", Check.town(three + drawFor(999) + ";").person(0, 4), 2);
        StringBuilder all = new StringBuilder("skill s;parish p;");
        for (char name = 'a'; name <= 'h'; name++) {
            all.append("order ").append(name).append(" asks s 0;odds p ").append(name).append(" 9;");
        }
        for (int seed = 0; seed < 144; seed++) {
            if (seed % 9 == 0 || seed % 9 == 8) {
                CHECK.due("SEED " + seed + " of 72", Check.town(all + "person a of p age 1;draw " + drawFor(seed) + ";").person(0, 4),
                    seed % 72 / 9);
            }
        }
        CHECK.due("an only one", Check.town("skill s;order x asks s 0;parish p;odds p x 1;person a of p age 1;").person(0, 4), 0);
    }

    private static void blankWithoutOdds() {
        CHECK.says(0, "(BLANK, if there are none; the SEED goes on)");
        FortyLetters x = Check.town("skill s;order x asks s 0;order y asks s 0;parish p;parish none;odds p x 1;odds p y 1;"
            + "person a of none age 1;person b of p age 1;person c of none age 1;person d of p age 1;draw 0;");
        int[] seeds = {71, 798, 397, 460};
        for (int person = 0; person < 4; person++) {
            CHECK.due("PERSON " + person, x.person(person, 4), person % 2 == 0 ? -1 : seeds[person] % 2);
        }
        CHECK.due("the SEED behind all", x.about(6), seeds[3]);
    }

    private static void canAtLeast() {
        CHECK.says(0, "A PERSON CAN do an ORDER whose SKILL he has at its level at least.");
        FortyLetters x = Check.town("skill t;skill s;order a asks s 0;order b asks s 5;order c asks s 20;order d asks t 5;parish p;"
            + "person a of p age 1 s 4 t 20;person b of p age 1 s 5 t 4;person c of p age 1 s 6;person d of p age 1 s 19;"
            + "person e of p age 1 s 20;person f of p age 1;");
        int[] due = {9, 3, 3, 3, 7, 1};
        for (int person = 0; person < 6; person++) {
            CHECK.due("person(" + person + ", 5)", x.person(person, 5), due[person]);
        }
    }

    private static void opened() {
        CHECK.says(0, "OPENED, a BLANK is FREE; an ORDER is DONE, if he CAN do it, and none that undoes it was DONE already; else FAILED.");
        FortyLetters x = Check.town(THREE);
        CHECK.due("he CAN", x.opens(0), 2);
        CHECK.due("he can't", x.opens(1), 3);
        CHECK.due("BLANK", x.opens(2), 4);
        CHECK.due("just a DONE one is DONE", x.done(), 1);
    }

    private static void undoneByDone() {
        CHECK.says(0, "none that undoes it was DONE already");
        String two = "skill s;order x asks s 1;order y asks s 0;parish p;parish q;odds p x 1;odds q y 1;"
            + "person a of p age 1 s 1;person b of q age 1;person c of p age 1;undoes x y;";
        FortyLetters x = Check.town(two);
        x.opens(0);
        CHECK.due("undone", x.opens(1), 3);
        x = Check.town(two);
        CHECK.due("ahead of it", x.opens(1), 2);
        CHECK.due("y does not undo x", x.opens(0), 2);
        x = Check.town(two);
        CHECK.due("one that FAILED", x.opens(2), 3);
        CHECK.due("undoes none", x.opens(1), 2);
        x = Check.town(two + "undoes y x;");
        x.opens(1);
        CHECK.due("each undoes the other", x.opens(0), 3);
    }

    private static void preparesNone() {
        CHECK.says(0, "a PERSON prepares a SKILL (none at first), or none");
        FortyLetters x = Check.town(THREE);
        for (int person = 0; person < 3; person++) {
            CHECK.due("at first", x.person(person, 2), -1);
        }
        x.year();
        CHECK.due("who prepares none learns none", x.level(0, 0) * 10 + x.level(0, 1), 20);
        x.prepare(0, 1);
        x.year();
        x.prepare(0, -1);
        x.year();
        CHECK.due("just one YEAR has taught", x.level(0, 0) * 10 + x.level(0, 1), 21);
    }

    private static void swappedAreSealed() {
        CHECK.says(0, "two that are not OPENED are swapped (both SEALED then)");
        FortyLetters x = Check.town(THREE);
        for (int person = 0; person < 3; person++) {
            x.steam(person);
        }
        x.swap(0, 2);
        CHECK.due("the one", x.person(0, 1), 0);
        CHECK.due("the other", x.person(2, 1), 0);
        CHECK.due("a third is STEAMED", x.person(1, 1), 1);
        CHECK.due("the one's", x.person(0, 4), -1);
        CHECK.due("the other's", x.person(2, 4), 0);
        x.steam(2);
        x.swap(1, 2);
        CHECK.due("the second's", x.person(1, 4), 0);
        CHECK.due("the third's", x.person(2, 4), 1);
        CHECK.due("both SEALED", x.person(1, 1) + x.person(2, 1), 0);
        CHECK.due("the first's stays", x.person(0, 4), -1);
    }

    private static void forgedIsSteamed() {
        CHECK.says(0, "one is forged: it holds another ORDER, and he knows it (STEAMED)");
        FortyLetters x = Check.town(THREE);
        x.forge(2, 1);
        CHECK.due("of a BLANK", x.person(2, 1), 1);
        CHECK.due("an ORDER", x.person(2, 4), 1);
        x.steam(0);
        x.forge(0, 1);
        CHECK.due("STEAMED already", x.person(0, 1), 1);
        CHECK.due("steam", x.steam(2), -2);
    }

    private static void openedOnesRest() {
        CHECK.says(0, "PERSON by PERSON, each whose LETTER is not OPENED");
        FortyLetters x = Check.town(THREE);
        for (int person = 0; person < 3; person++) {
            x.prepare(person, 0);
        }
        x.opens(0);
        x.opens(2);
        x.year();
        CHECK.due("an OPENED one learns no more", x.level(0, 0), 2);
        CHECK.due("and grows no older", x.person(0, 0), 10);
        CHECK.due("nor a FREE one", x.person(2, 0) * 10 + x.level(2, 0), 100);
        CHECK.due("another does", x.person(1, 0) * 10 + x.level(1, 0), 111);
        x = Check.town("skill s;order x asks s 0;order y asks s 0;parish p;parish q;odds p x 1;odds q y 1;person a of q age 39;"
            + "person b of p age 39;person c of q age 39;undoes x y;");
        x.year();
        CHECK.due("y ahead of x", x.person(0, 1), 2);
        CHECK.due("y behind x", x.person(2, 1), 3);
    }

    private static void teachNotTold() {
        CHECK.says(0, "what comes of teach (1, if it is not told)");
        String one = "skill s;parish p;person a of p age 1 s 3;";
        CHECK.due("not told", gain(one, 0), 1);
        CHECK.due("told to be 0", gain(one + "teach 0;", 0), 0);
        CHECK.due("told to be 2", gain(one + "teach 2;", 0), 2);
        FortyLetters x = Check.town(one + "teach 5;");
        Check.feed(x, one);
        x.town();
        x.prepare(0, 0);
        x.year();
        CHECK.due("told in an earlier TOWN alone", x.level(0, 0), 4);
    }

    /** How much more of a SKILL the first PERSON has behind one YEAR. */
    private static int gain(String text, int skill) {
        FortyLetters x = Check.town(text);
        x.prepare(0, skill);
        int before = x.level(0, skill);
        x.year();
        return x.level(0, skill) - before;
    }

    private static void whatTeachCounts() {
        CHECK.says(0, "by level (his, of that SKILL), age, year (0 at first), which (the SKILL's number");
        String one = "skill s;skill t;skill u;skill v;parish p;person z of p age 1;person a of p age 7 s 1 t 2 u 3 v 4;";
        for (int skill = 0; skill < 4; skill++) {
            FortyLetters x = Check.town(one + "teach level+which;");
            x.prepare(1, skill);
            x.year();
            CHECK.due("level and which of SKILL " + skill, x.level(1, skill), 2 * (skill + 1) + skill);
        }
        CHECK.due("his age ahead of the YEAR", gain("skill s;parish p;person a of p age 0;teach age;", 0), 0);
        CHECK.due("his age", gain("skill s;parish p;person a of p age 8;teach age;", 0), 8);
        FortyLetters x = Check.town("skill s;parish p;person a of p age 0;teach year;");
        x.prepare(0, 0);
        x.year();
        CHECK.due("year 0 at first", x.level(0, 0), 0);
        x.year();
        CHECK.due("then year 1", x.level(0, 0), 1);
        x.year();
        CHECK.due("then year 2", x.level(0, 0), 3);
    }

    /** What comes of a formula, of which 0 .. 9 can be seen. */
    private static void comesOf(String formula, int want) {
        CHECK.due("teach " + formula, gain("skill s;parish p;person a of p age 7 s 3;teach " + formula + ";", 0), want);
    }

    private static void formulas() {
        CHECK.says(0, "ints, wrapping");
        String most = "(8192*8192*32-1)";
        comesOf("8192*8192*32<0", 1);
        comesOf(most + ">0", 1);
        comesOf(most + "+1<0", 1);
        comesOf("0-" + most + "-2>0", 1);
        comesOf("0-" + most + "-2=" + most, 1);
        comesOf("8192*8192*64+5", 5);
        comesOf("8192*8192*64*9999+6", 6);
        comesOf("(8192*8192*32)/(0-1)<0", 1);
        comesOf("(8192*8192*32)%(0-1)+3", 3);

        CHECK.says(0, "/ cut, % its rest, both by 0: 0");
        comesOf("7/2", 3);
        comesOf("7/8", 0);
        comesOf("(0-7)/2+9", 6);
        comesOf("7/(0-2)+9", 6);
        comesOf("(0-7)/(0-2)", 3);
        comesOf("7%4", 3);
        comesOf("8%4", 0);
        comesOf("(0-7)%4+9", 6);
        comesOf("7%(0-4)", 3);
        comesOf("7/0+2", 2);
        comesOf("0/0+2", 2);
        comesOf("7%0+2", 2);
        comesOf("0%0+2", 2);
        comesOf("7/(level-3)+4", 4);

        CHECK.says(0, "relations, and, or, not are 1 or 0, of what is not 0)");
        comesOf("1<2", 1);
        comesOf("2<2", 0);
        comesOf("3<2", 0);
        comesOf("2>1", 1);
        comesOf("2>2", 0);
        comesOf("1>2", 0);
        comesOf("2=2", 1);
        comesOf("2=3", 0);
        comesOf("(0-1)<0", 1);
        comesOf("5 and 7", 1);
        comesOf("(0-5) and 7", 1);
        comesOf("5 and 0", 0);
        comesOf("0 and 5", 0);
        comesOf("0 and 0", 0);
        comesOf("5 or 7", 1);
        comesOf("(0-5) or 0", 1);
        comesOf("0 or 5", 1);
        comesOf("0 or 0", 0);
        comesOf("not 0", 1);
        comesOf("not 1", 0);
        comesOf("not 7", 0);
        comesOf("not (0-7)", 0);
        comesOf("not not 7", 1);
        comesOf("not " + "not ".repeat(6) + "0", 1);
    }

    /** As long as a formula can be, each of its parts counts. */
    private static void longFormulas() {
        CHECK.says(0, "30 in one e (what is within brackets counts in it) (a unit ( e ), or a one behind not, within 6 others at most)");
        String nots = "not ".repeat(7);
        comesOf((nots + "1 or ").repeat(29) + nots + "0", 1);
        comesOf((nots + "1 or ").repeat(29) + nots + "1", 0);
        comesOf(nots + "0" + (" or " + nots + "1").repeat(29), 1);
        comesOf((nots + "0 and ").repeat(29) + nots + "1", 0);
        comesOf((nots + "0 and ").repeat(29) + nots + "0", 1);
        comesOf("0+".repeat(29) + "7", 7);
        comesOf("9999-" + "344-".repeat(28) + "365", 2);
        comesOf("1+2*(3+4*(5-6/(7-5*(1+1%(2+0*(1-(2=2)))))))", 9);
        comesOf("1-0*(3+4*(5-6/(7-5*(1+1%(2+0*(1-(2=2)))))))", 1);
        comesOf("0 or (0<(0+1*(0 or (0<(0+1*(0 or 0<1))))))", 1);
    }

    private static void gainBounds() {
        CHECK.says(0, "0 at least, 9 at most, 20 in all");
        comesOf("0-1", 0);
        comesOf("0-9999", 0);
        comesOf("0", 0);
        comesOf("9", 9);
        comesOf("10", 9);
        comesOf("9999*9999", 9);
        comesOf("8192*8192*32", 0);
        for (int level = 10; level <= 20; level++) {
            String one = "skill s;parish p;person a of p age 7 s " + level + ";";
            CHECK.due("9 more than " + level, gain(one + "teach 9;", 0), Math.min(9, 20 - level));
            CHECK.due("1 more than " + level, gain(one, 0), level < 20 ? 1 : 0);
        }
    }

    private static void opensByAge() {
        CHECK.says(0, "he is a year older; if he is as old as open tells (or older), his LETTER is OPENED");
        int[][] due = {{38, 40, 2}, {39, 40, 1}, {0, 1, 1}, {0, 2, 2}, {39, 39, 1}, {39, 1, 1}, {1, 1, 1}, {0, 60, 60}, {39, 60, 21}};
        for (int[] row : due) {
            FortyLetters x = Check.town("parish p;person a of p age " + row[0] + ";open " + row[1] + ";");
            CHECK.due("never ahead of the first YEAR", x.person(0, 1), 0);
            for (int year = 1; year <= row[2]; year++) {
                CHECK.due("age " + row[0] + ", open " + row[1] + ", YEAR " + year, x.year(), year == row[2] ? 1 : 0);
            }
            CHECK.due("his age then", x.person(0, 0), row[0] + row[2]);
        }
        FortyLetters x = Check.town("skill s;order x asks s 1;parish p;odds p x 1;person a of p age 39;");
        x.prepare(0, 0);
        x.year();
        CHECK.due("what the last YEAR taught counts", x.person(0, 1), 2);
    }

    private static void yearGoesUpLast() {
        CHECK.says(0, "then the year goes up by 1");
        FortyLetters x = Check.town("skill s;parish p;person a of p age 1;person b of p age 1;teach 3+year;");
        x.prepare(0, 0);
        x.prepare(1, 0);
        CHECK.due("ahead", x.about(5), 0);
        x.year();
        CHECK.due("behind one", x.about(5), 1);
        CHECK.due("the first PERSON's year", x.level(0, 0), 3);
        CHECK.due("is the last one's, too", x.level(1, 0), 3);
    }

    private static void latestAct() {
        CHECK.says(0, "UNDO takes back the latest ACT that was not");
        FortyLetters x = Check.town(THREE);
        x.prepare(0, 1);
        x.steam(0);
        x.swap(0, 1);
        x.forge(2, 0);
        x.opens(2);
        x.year();
        CHECK.due("six", x.about(8), 6);
        x.undo();
        CHECK.due("the YEAR: year", x.about(5), 0);
        CHECK.due("the YEAR: age", x.person(0, 0), 10);
        CHECK.due("the YEAR: level", x.level(0, 1), 0);
        CHECK.due("OPENED still", x.person(2, 1), 3);
        x.undo();
        CHECK.due("opens", x.person(2, 1), 1);
        x.undo();
        CHECK.due("forge: what it is", x.person(2, 1), 0);
        CHECK.due("forge: what it holds", x.person(2, 4), -1);
        CHECK.due("swapped still", x.person(0, 4), 1);
        x.undo();
        CHECK.due("swap: what it holds", x.person(0, 4), 0);
        CHECK.due("swap: STEAMED again", x.person(0, 1), 1);
        x.undo();
        CHECK.due("steam", x.person(0, 1), 0);
        CHECK.due("he prepares still", x.person(0, 2), 1);
        x.undo();
        CHECK.due("prepare", x.person(0, 2), -1);
        CHECK.due("none is left", x.undo(), false);
    }

    private static void redoTillAnotherAct() {
        CHECK.says(0, "REDO does that again which was taken back last (till another ACT)");
        FortyLetters x = Check.town(THREE);
        x.prepare(0, 0);
        x.prepare(0, 1);
        x.undo();
        x.undo();
        CHECK.due("redo", x.redo(), true);
        CHECK.due("what was taken back last", x.person(0, 2), 0);
        CHECK.due("redo", x.redo(), true);
        CHECK.due("then the one ahead of that", x.person(0, 2), 1);
        CHECK.due("redo of none", x.redo(), false);
        x.undo();
        x.undo();
        x.rings();
        x.sign(0, 0, 0, true);
        x.image(0);
        x.year();
        x.undo();
        CHECK.due("another ACT ends it", x.about(9), 1);
        x.redo();
        CHECK.due("the YEAR is done again", x.about(5), 1);
        CHECK.due("redo", x.redo(), false);
        CHECK.due("he prepares none", x.person(0, 2), -1);
        x.undo();
        x.prepare(0, 9);
        x.swap(0, 0);
        CHECK.due("what was refused is none", x.redo(), true);
    }

    private static void fortyActs() {
        CHECK.says(0, "40 at most are kept, the oldest go.");
        FortyLetters x = new FortyLetters();
        for (int acts = 1; acts <= 39; acts++) {
            x.year();
        }
        CHECK.due("39", x.about(8), 39);
        x.year();
        CHECK.due("40", x.about(8), 40);
        x.year();
        CHECK.due("of 41", x.about(8), 40);
        for (int i = 1; i <= 40; i++) {
            CHECK.due("undo", x.undo(), true);
            CHECK.due("the year", x.about(5), 41 - i);
        }
        CHECK.due("the oldest is gone", x.undo(), false);
        CHECK.due("it stays done", x.about(5), 1);
        CHECK.due("all can be done again", x.about(9), 40);
        for (int i = 1; i <= 40; i++) {
            CHECK.due("redo", x.redo(), true);
            CHECK.due("the year", x.about(5), 1 + i);
        }
        CHECK.due("redo of none", x.redo(), false);
        for (int i = 0; i < 25; i++) {
            x.undo();
        }
        x.year();
        CHECK.due("16 then", x.about(8), 16);
        CHECK.due("none to redo", x.about(9), 0);
        x = new FortyLetters();
        for (int acts = 1; acts <= 200; acts++) {
            x.year();
            CHECK.due("ACTS", x.about(8), Math.min(acts, 40));
            x.undo();
            CHECK.due("the year, " + acts + " taken back", x.about(5), acts - 1);
            x.redo();
            CHECK.due("the year, " + acts + " done again", x.about(5), acts);
        }
    }

    /** Six PERSONS with four SKILLS: what each has is kept for him alone. */
    private static void fullTown() {
        CHECK.says(38, "Ages, SKILLS, LETTERS, what each prepares, the year are kept in a BOX 0 .. 2");
        StringBuilder text = new StringBuilder("skill a;skill b;skill c;skill d;order x asks c 20;order y asks d 20;parish p;");
        for (int person = 0; person < 6; person++) {
            text.append("person ").append((char) ('a' + person)).append(" of p age ").append(10 + person);
            for (int skill = 0; skill < 4; skill++) {
                text.append(" ").append((char) ('a' + skill)).append(" ").append(person * 2 + skill);
            }
            text.append(";");
        }
        FortyLetters x = Check.town(text.toString());
        int[] prepared = {2, 3, -1, 0, 1, 3};
        for (int person = 0; person < 6; person++) {
            x.prepare(person, prepared[person]);
        }
        x.forge(5, 1);
        CHECK.due("nothing is DONE", x.done(), 0);
        for (int year = 1; year <= 4; year++) {
            x.year();
        }
        x.image(2);
        x.year();
        CHECK.due("back", x.back(2), 4);
        for (int person = 0; person < 6; person++) {
            CHECK.due("age of " + person, x.person(person, 0), 14 + person);
            CHECK.due("what " + person + " prepares", x.person(person, 2), prepared[person]);
            CHECK.due("what " + person + " has", x.person(person, 4), person == 5 ? 1 : -1);
            CHECK.due("how that is", x.person(person, 1), person == 5 ? 1 : 0);
            for (int skill = 0; skill < 4; skill++) {
                CHECK.due("level", x.level(person, skill), person * 2 + skill + (skill == prepared[person] ? 4 : 0));
            }
        }
        CHECK.due("nothing is DONE", x.done(), 0);
        x.opens(5);
        CHECK.due("FAILED", x.many(3), 1);
    }

    private static void person() {
        CHECK.says(6, "2: the SKILL that he prepares (NONE)");
        FortyLetters x = Check.town(THREE);
        CHECK.due("none", x.person(0, 2), -1);
        x.prepare(0, 0);
        CHECK.due("SKILL 0", x.person(0, 2), 0);
        CHECK.says(6, "4: the ORDER that his LETTER holds (NONE: BLANK)");
        CHECK.due("ORDER 0", x.person(0, 4), 0);
        CHECK.due("BLANK", x.person(2, 4), -1);
        CHECK.says(6, "5: ORDERS that he CAN do, as bits");
        CHECK.due("the first", x.person(0, 5), 1);
        CHECK.due("none", x.person(1, 5), 0);
        CHECK.says(6, "1: what his LETTER is (0 SEALED, 1 STEAMED, 2 DONE, 3 FAILED, 4 FREE)");
        CHECK.due("SEALED", x.person(0, 1), 0);
        x.steam(0);
        CHECK.due("STEAMED", x.person(0, 1), 1);
        for (int person = 0; person < 3; person++) {
            x.opens(person);
            CHECK.due("OPENED", x.person(person, 1), person + 2);
        }
        CHECK.says(6, "-2 if there is none such, or for another what.");
        for (int what = 0; what <= 5; what++) {
            CHECK.due("PERSON 3", x.person(3, what), -2);
            CHECK.due("PERSON -1", x.person(-1, what), -2);
            CHECK.due("PERSON MIN", x.person(MIN, what), -2);
            CHECK.due("PERSON MAX", x.person(MAX, what), -2);
        }
        CHECK.due("what 6", x.person(0, 6), -2);
        CHECK.due("what -1", x.person(0, -1), -2);
        CHECK.due("what MIN", x.person(0, MIN), -2);
        CHECK.due("what MAX", x.person(0, MAX), -2);
    }

    private static void level() {
        CHECK.says(7, "NONE if one can't be.");
        FortyLetters x = Check.town(THREE);
        CHECK.due("the last of both", x.level(2, 1), 0);
        int[][] refused = {{3, 0}, {-1, 0}, {0, 2}, {0, -1}, {MIN, 0}, {MAX, 0}, {0, MIN}, {0, MAX}, {-1, 6}, {3, -1}};
        for (int[] row : refused) {
            CHECK.due("level(" + row[0] + ", " + row[1] + ")", x.level(row[0], row[1]), -1);
        }
    }

    private static void order() {
        CHECK.says(8, "5: ORDERS that it undoes, as bits");
        StringBuilder all = new StringBuilder("skill s;");
        for (char name = 'a'; name <= 'h'; name++) {
            all.append("order ").append(name).append(" asks s 1;");
        }
        FortyLetters x = Check.town(all + "undoes a h;undoes a b;undoes h a;");
        CHECK.due("the second and the last", x.order(0, 5), 130);
        CHECK.due("the first", x.order(7, 5), 1);
        CHECK.due("none", x.order(1, 5), 0);
        CHECK.says(8, "NONE if there is none such, or for another what.");
        for (int what = 0; what <= 5; what++) {
            CHECK.due("ORDER 8", x.order(8, what), -1);
            CHECK.due("ORDER -1", x.order(-1, what), -1);
            CHECK.due("ORDER MIN", x.order(MIN, what), -1);
            CHECK.due("ORDER MAX", x.order(MAX, what), -1);
        }
        CHECK.due("what 6", x.order(0, 6), -1);
        CHECK.due("what -1", x.order(0, -1), -1);
        CHECK.due("what MIN", x.order(0, MIN), -1);
        CHECK.due("what MAX", x.order(0, MAX), -1);
        CHECK.due("ORDER 2 of two", Check.town(THREE).order(2, 0), -1);
    }

    private static void share() {
        CHECK.says(9, "What a PARISH has of an ORDER (0 if not told)");
        FortyLetters x = Check.town(THREE);
        CHECK.due("told", x.share(0, 0), 1);
        CHECK.due("of another ORDER", x.share(0, 1), 0);
        CHECK.due("of another PARISH", x.share(1, 0), 0);
        CHECK.due("without any", x.share(2, 1), 0);
        CHECK.says(9, "NONE if one can't be.");
        int[][] refused = {{3, 0}, {-1, 0}, {0, 2}, {0, -1}, {MIN, 0}, {MAX, 0}, {0, MIN}, {0, MAX}, {-1, 8}, {3, -1}};
        for (int[] row : refused) {
            CHECK.due("share(" + row[0] + ", " + row[1] + ")", x.share(row[0], row[1]), -1);
        }
    }

    private static void many() {
        CHECK.says(10, "(0 .. 4, as person() tells them); NONE for another number.");
        FortyLetters x = Check.town(THREE);
        int[][] due = {{3, 0, 0, 0, 0}, {2, 1, 0, 0, 0}, {2, 0, 1, 0, 0}, {1, 0, 1, 1, 0}, {0, 0, 1, 1, 1}};
        for (int act = 0; act < due.length; act++) {
            for (int state = 0; state <= 4; state++) {
                CHECK.due("many(" + state + ") behind " + act, x.many(state), due[act][state]);
            }
            CHECK.due("many(5)", x.many(5), -1);
            CHECK.due("many(-1)", x.many(-1), -1);
            CHECK.due("many(MIN)", x.many(MIN), -1);
            CHECK.due("many(MAX)", x.many(MAX), -1);
            if (act == 0) {
                x.steam(0);
            } else {
                x.opens(act - 1);
            }
        }
        x = Check.town("parish p;person a of p age 1;person b of p age 1;person c of p age 1;person d of p age 1;person e of p age 1;"
            + "person f of p age 39;open 1;");
        CHECK.due("six SEALED", x.many(0), 6);
        x.year();
        CHECK.due("six FREE", x.many(4), 6);
    }

    private static void done() {
        CHECK.says(11, "ORDERS that were DONE, as bits.");
        FortyLetters x = Check.town(THREE);
        CHECK.due("none", x.done(), 0);
        x.opens(1);
        x.opens(2);
        CHECK.due("neither a FAILED one nor a BLANK", x.done(), 0);
        x.opens(0);
        CHECK.due("the first", x.done(), 1);
        x.undo();
        CHECK.due("taken back", x.done(), 0);
        StringBuilder all = new StringBuilder("skill s;parish p;");
        for (char name = 'a'; name <= 'h'; name++) {
            all.append("order ").append(name).append(" asks s 0;");
        }
        x = Check.town(all + "person a of p age 1;person b of p age 1;person c of p age 1;");
        x.forge(0, 7);
        x.forge(1, 7);
        x.forge(2, 0);
        x.year();
        CHECK.due("just OPENED ones", x.done(), 0);
        x.opens(0);
        x.opens(1);
        x.opens(2);
        CHECK.due("the last, by two, and the first", x.done(), 129);
    }

    /** That a refused call did nothing: no ACT more, and what was taken back can be done again. */
    private static void nothingDone(FortyLetters x, String refused, int acts) {
        CHECK.due("ACTS behind " + refused, x.about(8), acts);
        CHECK.due("to redo behind " + refused, x.about(9), 1);
    }

    /** a is OPENED, and one ACT was taken back. */
    private static FortyLetters oneOpened() {
        FortyLetters x = Check.town(THREE);
        x.prepare(0, 1);
        x.opens(0);
        x.year();
        x.undo();
        return x;
    }

    private static void prepare() {
        CHECK.says(12, "A PERSON prepares a SKILL (NONE: none): which he did");
        FortyLetters x = Check.town(THREE);
        CHECK.due("none, at first", x.prepare(1, 1), -1);
        CHECK.due("the last", x.prepare(1, -1), 1);
        CHECK.due("none", x.prepare(1, -1), -1);
        CHECK.due("none again", x.prepare(1, 0), -1);
        CHECK.due("the first", x.prepare(1, 0), 0);
        CHECK.due("each is an ACT", x.about(8), 5);
        x.steam(1);
        CHECK.due("of a STEAMED LETTER, too", x.prepare(1, 1), 0);
        CHECK.says(12, "-2, doing nothing, if his LETTER is OPENED, or one can't be.");
        x = oneOpened();
        int[][] refused = {{0, 0}, {0, -1}, {3, 0}, {-1, 0}, {1, 2}, {1, -2}, {MIN, 0}, {MAX, 0}, {1, MIN}, {1, MAX}};
        for (int[] row : refused) {
            CHECK.due("prepare(" + row[0] + ", " + row[1] + ")", x.prepare(row[0], row[1]), -2);
        }
        nothingDone(x, "prepare", 2);
        CHECK.due("the OPENED one's", x.person(0, 2), 1);
        CHECK.due("the other's", x.person(1, 2), -1);
    }

    private static void steam() {
        CHECK.says(13, "A LETTER is STEAMED: the ORDER (NONE: BLANK)");
        FortyLetters x = Check.town(THREE);
        CHECK.due("an ORDER", x.steam(1), 1);
        CHECK.due("a BLANK", x.steam(2), -1);
        CHECK.due("both are ACTS", x.about(8), 2);
        CHECK.says(13, "-2, doing nothing, if it is not SEALED, or there is none such.");
        x.year();
        x.undo();
        CHECK.due("STEAMED", x.steam(1), -2);
        CHECK.due("a STEAMED BLANK", x.steam(2), -2);
        int[] refused = {3, -1, MIN, MAX};
        for (int person : refused) {
            CHECK.due("steam(" + person + ")", x.steam(person), -2);
        }
        nothingDone(x, "steam", 2);
        x = oneOpened();
        CHECK.due("OPENED", x.steam(0), -2);
        nothingDone(x, "steam", 2);
        CHECK.due("it is DONE still", x.person(0, 1), 2);
        x.forge(1, 0);
        CHECK.due("forged", x.steam(1), -2);
        x.swap(1, 2);
        CHECK.due("SEALED by a swap", x.steam(2), 0);
    }

    private static void swap() {
        CHECK.says(14, "false, doing nothing, if one of both is OPENED, both are one, or one can't be.");
        FortyLetters x = oneOpened();
        x.undo();
        x.undo();
        x.steam(1);
        x.opens(0);
        x.year();
        x.undo();
        int[][] refused = {{0, 1}, {1, 0}, {0, 0}, {1, 1}, {2, 2}, {1, 3}, {3, 1}, {1, -1}, {-1, 1}, {3, 3}, {-1, -1}, {MIN, 1}, {1, MAX},
            {MAX, 1}, {1, MIN}};
        for (int[] row : refused) {
            CHECK.due("swap(" + row[0] + ", " + row[1] + ")", x.swap(row[0], row[1]), false);
        }
        nothingDone(x, "swap", 2);
        CHECK.due("STEAMED still", x.person(1, 1), 1);
        CHECK.due("his own still", x.person(1, 4), 1);
        CHECK.due("the first and the last that can be", x.swap(1, 2), true);
        CHECK.due("the other way round", x.swap(2, 1), true);
        CHECK.due("his own again", x.person(1, 4), 1);
    }

    private static void forge() {
        CHECK.says(15, "A LETTER is forged: which ORDER it held (NONE: BLANK)");
        FortyLetters x = Check.town(THREE);
        CHECK.due("a BLANK", x.forge(2, 1), -1);
        CHECK.due("the last", x.forge(2, 0), 1);
        CHECK.due("the first", x.forge(2, 1), 0);
        CHECK.due("each is an ACT", x.about(8), 3);
        CHECK.says(15, "-2, doing nothing, if it is OPENED, or one can't be.");
        x = oneOpened();
        int[][] refused = {{0, 1}, {0, 0}, {1, 2}, {1, -1}, {3, 0}, {-1, 0}, {MIN, 0}, {MAX, 0}, {1, MIN}, {1, MAX}};
        for (int[] row : refused) {
            CHECK.due("forge(" + row[0] + ", " + row[1] + ")", x.forge(row[0], row[1]), -2);
        }
        nothingDone(x, "forge", 2);
        CHECK.due("the OPENED one's", x.person(0, 4), 0);
        CHECK.due("the other's", x.person(1, 4), 1);
        CHECK.due("SEALED still", x.person(1, 1), 0);
    }

    private static void opens() {
        CHECK.says(16, "A LETTER is OPENED: 2 DONE, 3 FAILED, 4 FREE");
        FortyLetters x = Check.town(THREE);
        CHECK.due("DONE", x.opens(0), 2);
        CHECK.due("FAILED", x.opens(1), 3);
        CHECK.due("FREE", x.opens(2), 4);
        CHECK.due("each is an ACT", x.about(8), 3);
        CHECK.says(16, "NONE, doing nothing, if it is already, or there is none such.");
        x.year();
        x.undo();
        int[] refused = {0, 1, 2, 3, -1, MIN, MAX};
        for (int person : refused) {
            CHECK.due("opens(" + person + ")", x.opens(person), -1);
        }
        nothingDone(x, "opens", 3);
        CHECK.due("DONE", x.done(), 1);
    }

    private static void year() {
        CHECK.says(17, "A YEAR: how many LETTERS were OPENED");
        CHECK.due("of none", new FortyLetters().year(), 0);
        FortyLetters x = Check.town("parish p;person a of p age 38;person b of p age 39;person c of p age 39;person d of p age 0;");
        CHECK.due("two", x.year(), 2);
        CHECK.due("one more", x.year(), 1);
        CHECK.due("none", x.year(), 0);
        CHECK.due("each is an ACT", x.about(8), 3);
        x = Check.town("parish p;person a of p age 1;person b of p age 9;person c of p age 39;person d of p age 1;person e of p age 1;"
            + "person f of p age 39;open 2;");
        CHECK.due("all six", x.year(), 6);
        // An object's 512 calls never get so far; the class keeps to it all the same.
        CHECK.says(17, "NONE, doing nothing, behind 999 of them.");
        x = new FortyLetters();
        for (int i = 1; i <= 998; i++) {
            x.year();
        }
        CHECK.due("the 999th", x.year(), 0);
        CHECK.due("one more", x.year(), -1);
        CHECK.due("the year stays", x.about(5), 999);
        x.undo();
        CHECK.due("it was no ACT", x.about(5), 998);
        CHECK.due("the 999th again", x.year(), 0);
    }

    private static void undoAndRedo() {
        CHECK.says(18, "UNDO: true; false if there is none.");
        FortyLetters x = Check.town(THREE);
        CHECK.due("none yet", x.undo(), false);
        x.steam(0);
        CHECK.due("one", x.undo(), true);
        CHECK.due("no more", x.undo(), false);
        x.image(0);
        x.steam(0);
        x.back(0);
        CHECK.due("none behind back()", x.undo(), false);
        CHECK.says(19, "REDO: true; false if there is none.");
        x = Check.town(THREE);
        CHECK.due("none yet", x.redo(), false);
        x.steam(0);
        CHECK.due("none was taken back", x.redo(), false);
        x.undo();
        CHECK.due("one", x.redo(), true);
        CHECK.due("no more", x.redo(), false);
        x.undo();
        x.image(0);
        x.back(0);
        CHECK.due("none behind back()", x.redo(), false);
    }

    private static void manyCalls() {
        CHECK.says(0, "An object is used for at most 512 calls after it has been made");
        FortyLetters x = new FortyLetters();
        for (int call = 1; call <= 511; call++) {
            x.year();
        }
        CHECK.due("the 512th call", x.about(5), 511);
    }
}
