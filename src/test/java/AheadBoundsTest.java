/** Each sentence that bounds a look ahead or a search (chapter 3, promises 20 to 31), tested by itself. */
public final class AheadBoundsTest {
    private static final Check CHECK = new Check("AheadBoundsTest");
    private static final int MIN = Integer.MIN_VALUE;
    private static final int MAX = Integer.MAX_VALUE;
    /** a holds x, b holds y, c is BLANK; none holds z. */
    private static final String THREE = "skill s;skill t;order x asks s 2 worth 4;order y asks t 3 worth 9;order z asks t 20;"
        + "parish p;parish q;parish r;odds p x 6;odds q y 9;person a of p age 37 s 1;person b of q age 38 t 2;person c of r age 39;";
    private static final String FOUR_SKILLS = "skill s;skill t;skill u;skill v;";

    public static void main(String[] args) {
        nothingIsDone();
        whatHeKnows();
        blankCounts();
        skillsThen();
        lifeYears();
        lifeBehindOneAnother();
        lifeFirst();
        willBounds();
        firstBounds();
        ringsLess();
        ringsWorth();
        ringsFirst();
        openingBounds();
        lawBounds();
        odds();
        life();
        hope();
        able();
        ready();
        lost();
        will();
        first();
        rings();
        opening();
        law();
        lies();
        CHECK.finish();
    }

    private static void oddsAre(FortyLetters x, int person, int upper, int lower) {
        CHECK.due("odds(" + person + ", 0)", x.odds(person, 0), upper);
        CHECK.due("odds(" + person + ", 1)", x.odds(person, 1), lower);
    }

    private static void hopeIs(FortyLetters x, int person, int upper, int lower) {
        CHECK.due("hope(" + person + ", 0)", x.hope(person, 0), upper);
        CHECK.due("hope(" + person + ", 1)", x.hope(person, 1), lower);
    }

    private static void lifeIs(FortyLetters x, int person, int parts, String years) {
        CHECK.due("life(" + person + ")", x.life(person), parts);
        CHECK.dueLying(x, years);
    }

    private static void nothingIsDone() {
        CHECK.says(0, "(By what is now; nothing is done.)");
        FortyLetters x = Check.town(THREE);
        x.prepare(0, 0);
        x.year();
        x.undo();
        for (int person = 0; person < 3; person++) {
            x.odds(person, 0);
            x.hope(person, 0);
            x.life(person);
            x.ready(person, 1);
            x.lost(person);
            x.will(person, 60);
        }
        x.able(0);
        x.first(0);
        x.rings();
        x.opening(7);
        x.law(0, 1);
        int[] due = {37, 0, 0, 0, 0, 0};
        for (int what = 0; what <= 5; what++) {
            CHECK.due("person(0, " + what + ")", x.person(0, what), due[what]);
        }
        CHECK.due("level", x.level(0, 0), 1);
        CHECK.due("all SEALED", x.many(0), 3);
        CHECK.due("the year", x.about(5), 0);
        CHECK.due("one ACT", x.about(8), 1);
        CHECK.due("one to redo", x.about(9), 1);
        x.opens(0);
        CHECK.due("by what is now: one is OPENED", x.opening(1), -1);
        CHECK.due("by what is now: two are left", x.rings(), 1);
    }

    private static void whatHeKnows() {
        CHECK.says(0, "(STEAMED: just its ORDER; SEALED: all ORDERS of his PARISH, by their odds; without odds, or BLANK and STEAMED: "
            + "that it is BLANK)");
        String two = "skill s;order x asks s 0;order y asks s 9;parish p;parish none;odds p x 2;odds p y 4;"
            + "person a of p age 39;person b of none age 39;";
        FortyLetters x = Check.town(two);
        oddsAre(x, 0, 1, 3);
        oddsAre(x, 1, 1, 1);
        x.forge(1, 1);
        oddsAre(x, 1, 0, 1);
        x.forge(1, 0);
        oddsAre(x, 1, 1, 1);
        x.forge(1, 1);
        x.swap(0, 1);
        // SEALED again: the one goes by his odds, the other by none, whatever they hold
        oddsAre(x, 0, 1, 3);
        oddsAre(x, 1, 1, 1);
        x.steam(0);
        oddsAre(x, 0, 0, 1);
        x.swap(0, 1);
        x.forge(0, 0);
        oddsAre(x, 0, 1, 1);
        // each by his own LETTER, whoever stands ahead of him
        x = Check.town(two + "person c of p age 39;person d of p age 39;");
        x.forge(2, 0);
        oddsAre(x, 1, 1, 1);
        oddsAre(x, 2, 1, 1);
        oddsAre(x, 3, 1, 3);
        x.forge(3, 1);
        oddsAre(x, 3, 0, 1);
        x = Check.town(two);
        x.swap(0, 1);
        oddsAre(x, 0, 1, 3);
        x.steam(0);
        CHECK.due("he has the BLANK", x.person(0, 4), -1);
        oddsAre(x, 0, 1, 1);
        x.steam(1);
        oddsAre(x, 1, x.person(1, 4) == 0 ? 1 : 0, 1);
    }

    private static void blankCounts() {
        CHECK.says(0, "(BLANK: all)");
        FortyLetters x = Check.town(THREE);
        oddsAre(x, 2, 1, 1);
        x.steam(2);
        oddsAre(x, 2, 1, 1);
        lifeIs(x, 2, 1, "0 1");
        CHECK.due("without SKILLS and ORDERS, too", Check.town("parish p;person a of p age 1;").odds(0, 0), 1);
    }

    private static void skillsThen() {
        CHECK.says(0, "with the SKILLS that he will have when it is OPENED, if he prepares as now");
        String one = "skill s;skill t;order x asks s 3;parish p;odds p x 1;person a of p age ";
        int[][] due = {{37, 40, 1}, {38, 40, 0}, {0, 3, 1}, {0, 2, 0}};
        for (int[] row : due) {
            FortyLetters x = Check.town(one + row[0] + ";open " + row[1] + ";");
            x.prepare(0, 0);
            oddsAre(x, 0, row[2], 1);
            x.prepare(0, 1);
            oddsAre(x, 0, 0, 1);
            x.prepare(0, -1);
            oddsAre(x, 0, 0, 1);
        }
        // as old as open tells, or older: one YEAR all the same
        int[] opens = {1, 38, 39, 40};
        for (int open : opens) {
            FortyLetters x = Check.town(one + "39 s 2;open " + open + ";");
            oddsAre(x, 0, 0, 1);
            x.prepare(0, 0);
            oddsAre(x, 0, 1, 1);
        }
        FortyLetters x = Check.town(one + "38 s 1;person b of p age 39 s 1;person c of p age 38 s 1;person d of p age 38 s 1;");
        x.prepare(0, 1);
        x.prepare(1, 0);
        x.prepare(2, 0);
        for (int person = 0; person < 4; person++) {
            oddsAre(x, person, person == 2 ? 1 : 0, 1);
        }
        x = Check.town(one + "37;teach year+(age=39);open 40;");
        x.prepare(0, 0);
        oddsAre(x, 0, 1, 1);
        x = Check.town(one + "37;teach year*(age<39);open 40;");
        x.prepare(0, 0);
        oddsAre(x, 0, 0, 1);
    }

    private static void lifeYears() {
        CHECK.says(0, "LIFE of a PERSON (12 years at most till then, one at least)");
        String one = "skill s;parish p;person a of p age ";
        lifeIs(Check.town(one + "28;"), 0, 1, "12");
        lifeIs(Check.town(one + "27;"), 0, -1, "");
        lifeIs(Check.town(one + "39;"), 0, 1, "1");
        lifeIs(Check.town(one + "39;open 39;"), 0, 1, "1");
        lifeIs(Check.town(one + "39;open 1;"), 0, 1, "1");
        lifeIs(Check.town(one + "0;open 1;"), 0, 1, "1");
        lifeIs(Check.town(one + "0;open 12;"), 0, 1, "12");
        lifeIs(Check.town(one + "0;open 13;"), 0, -1, "");
        FortyLetters x = Check.town(one + "0;open 13;");
        x.year();
        lifeIs(x, 0, 1, "12");

        CHECK.says(0, "together all the years till then");
        for (int first = 0; first <= 5; first++) {
            for (int next = 0; first + next <= 5; next++) {
                int last = 5 - first - next;
                String three = "skill s;skill t;skill u;order x asks s " + first + ";order y asks t " + next + ";order z asks u " + last
                    + ";parish p;odds p x 1;odds p y 1;odds p z 1;person a of p age 35;";
                lifeIs(Check.town(three), 0, 3, first + " " + next + " " + last);
            }
        }
        lifeIs(Check.town(FOUR_SKILLS + "parish p;person a of p age 28;"), 0, 1, "0 0 0 12");
        lifeIs(Check.town(FOUR_SKILLS + "order x asks s 1;parish p;odds p x 1;person a of p age 28;"), 0, 1, "1 0 0 11");
        lifeIs(Check.town(FOUR_SKILLS + "order x asks s 12;parish p;odds p x 1;person a of p age 28;"), 0, 1, "12 0 0 0");
        lifeIs(Check.town(FOUR_SKILLS + "order x asks s 13;parish p;odds p x 1;person a of p age 28;"), 0, 0, "0 0 0 12");
    }

    private static void lifeBehindOneAnother() {
        CHECK.says(0, "how many years he is to prepare each SKILL, one behind the other in their order");
        String two = "skill s;skill t;order x asks s 2;order y asks t 2;parish p;odds p x 3;odds p y 4;person a of p age 36;";
        lifeIs(Check.town(two), 0, 7, "2 2");
        lifeIs(Check.town(two + "teach age=36 or age=37 or (age>37)*which;"), 0, 7, "2 2");
        // the first SKILL's years come first, when there is nothing to learn
        lifeIs(Check.town(two + "teach (age>37)*2;"), 0, 7, "3 1");
        lifeIs(Check.town(two + "teach (age<38)*2;"), 0, 7, "1 3");
        lifeIs(Check.town(two + "teach (year=3)*2;"), 0, 4, "0 4");
        // a year that taught 20 in all goes by, too
        lifeIs(Check.town(two.replace("age 36", "age 36 s 20") + "teach (age=39)*2;"), 0, 7, "0 4");
    }

    private static void lifeFirst() {
        CHECK.says(0, "of like ones the first (SKILL by SKILL, the fewest first)");
        String one = FOUR_SKILLS + "order x asks s 2;order y asks t 2;order z asks u 2;order w asks v 2;parish p;"
            + "odds p x 1;odds p y 1;odds p z 1;odds p w 1;person a of p age ";
        lifeIs(Check.town(one + "39;"), 0, 0, "0 0 0 1");
        lifeIs(Check.town(one + "38;"), 0, 1, "0 0 0 2");
        lifeIs(Check.town(one + "36;"), 0, 2, "0 0 2 2");
        lifeIs(Check.town(one + "35;"), 0, 2, "0 0 2 3");
        lifeIs(Check.town(one + "34;"), 0, 3, "0 2 2 2");
        lifeIs(Check.town(one + "32;"), 0, 4, "2 2 2 2");
        lifeIs(Check.town(one + "29;"), 0, 4, "2 2 2 5");
        lifeIs(Check.town(one + "36 v 2;"), 0, 3, "0 2 2 0");
        lifeIs(Check.town(one + "36 s 2 t 2 u 2 v 2;"), 0, 4, "0 0 0 4");
        // "0 2 0 0" comes ahead of "1 0 0 1", in which as much can be done
        lifeIs(Check.town(one + "38;teach 2-which;"), 0, 1, "0 2 0 0");
        lifeIs(Check.town(one + "39;teach 2-which;"), 0, 1, "1 0 0 0");
    }

    private static void willBounds() {
        CHECK.says(0, "WILL: how a LETTER is behind n YEARS.");
        FortyLetters x = Check.town(THREE);
        x.prepare(0, 0);
        x.steam(1);
        int[][] due = {{0, 0, 0, 2}, {1, 1, 3, 3}, {0, 4, 4, 4}};
        for (int person = 0; person < 3; person++) {
            for (int n = 0; n < 4; n++) {
                CHECK.due("will(" + person + ", " + n + ")", x.will(person, n), due[person][n]);
            }
        }
        x = Check.town("parish p;person a of p age 0;open 60;");
        CHECK.due("behind 59", x.will(0, 59), 0);
        CHECK.due("behind 60", x.will(0, 60), 4);
    }

    private static void firstBounds() {
        CHECK.says(0, "FIRST: the PERSON whose LETTER FAILS first (60 YEARS at most), of like ones the first.");
        String late = "skill s;order x asks s 1;parish p;odds p x 1;person a of p age 0;open ";
        CHECK.due("the 60th YEAR", Check.town(late + "60;").first(1), 60);
        CHECK.due("the 60th YEAR: who", Check.town(late + "60;").first(0), 0);
        String three = "skill s;order x asks s 1;parish p;odds p x 1;person a of p age 30;person b of p age 33;person c of p age 33;";
        FortyLetters x = Check.town(three);
        CHECK.due("first(0)", x.first(0), 1);
        CHECK.due("first(1)", x.first(1), 7);
        x.prepare(1, 0);
        CHECK.due("then the other of like ones", x.first(0), 2);
        x.prepare(2, 0);
        CHECK.due("then the later one", x.first(0), 0);
        CHECK.due("then", x.first(1), 10);
        x.prepare(0, 0);
        CHECK.due("then none", x.first(0), -1);
        CHECK.due("then none", x.first(1), -1);
        x = Check.town(three);
        x.opens(2);
        CHECK.due("what FAILED already fails no more", x.first(0), 1);
    }

    private static void ringsLess() {
        CHECK.says(0, "given anew to these PERSONS, each one, so that none has less");
        String head = "skill s;skill t;order x asks s 1 worth 2;order y asks t 1 worth 9;parish p;parish q;parish r;odds p x 1;odds q y 1;";
        // all together would have 11, were it not that a gave 2 for 0
        FortyLetters x = Check.town(head + "person a of p age 1 s 1;person b of q age 1;person c of p age 1 t 1;");
        CHECK.due("c has y, and b what he can't do either", x.rings(), 11);
        CHECK.dueLying(x, "0 2 1");
        x = Check.town(head + "person a of q age 1 s 1;person b of p age 1 s 1 t 1;");
        CHECK.due("both have more", x.rings(), 11);
        CHECK.dueLying(x, "1 0");
        x = Check.town(head + "person a of q age 1;person b of p age 1 s 1 t 1;");
        CHECK.due("a has no less than 0", x.rings(), 9);
        CHECK.dueLying(x, "1 0");
        x = Check.town(head + "person a of r age 1;person b of q age 1;person c of p age 1 t 1;");
        CHECK.due("c has y; a keeps his BLANK", x.rings(), 10);
        CHECK.dueLying(x, "0 2 1");
        x = Check.town(head + "person a of r age 1;person b of r age 1;person c of p age 1 s 1;person d of q age 1 s 1;");
        CHECK.due("nothing can be given but for less", x.rings(), 4);
        CHECK.dueLying(x, "0 1 2 3");
        x = Check.town(head + "person a of p age 1 t 1;person b of r age 1 s 1;person c of q age 1;");
        CHECK.due("a has y; b has x; c a BLANK", x.rings(), 12);
        CHECK.dueLying(x, "2 0 1");
        x = Check.town(head + "person a of r age 1 t 1;person b of q age 1 t 1;");
        CHECK.due("none would have more, and one less", x.rings(), 10);
        CHECK.dueLying(x, "0 1");
    }

    private static void ringsWorth() {
        CHECK.says(0, "(worth of an ORDER that he CAN do now; 0 of another one; 1 of a BLANK)");
        FortyLetters x = Check.town(THREE);
        CHECK.due("just the BLANK", x.rings(), 1);
        x.prepare(0, 0);
        CHECK.due("not what he will do", x.rings(), 1);
        x.year();
        CHECK.due("but what he CAN do", x.rings(), 4);
        CHECK.due("c is OPENED", x.lies(2), -1);
        x.opens(0);
        CHECK.due("none", x.rings(), 0);
        CHECK.due("one BLANK", Check.town("parish p;person a of p age 1;").rings(), 1);
        CHECK.due("six BLANKS", Check.town("parish p;person a of p age 1;person b of p age 1;person c of p age 1;person d of p age 1;"
            + "person e of p age 1;person f of p age 1;").rings(), 6);
        CHECK.due("a worth of 1, not told", Check.town("skill s;order x asks s 0;parish p;odds p x 1;person a of p age 1;").rings(), 1);
    }

    private static void ringsFirst() {
        CHECK.says(0, "of like ones the first (PERSON by PERSON: whose LETTER)");
        String six = "skill s;order x asks s 0;order y asks s 1;parish p;parish q;odds p x 1;odds q y 1;person a of p age 1;person b of p age 1;"
            + "person c of p age 1;person d of p age 1;person e of p age 1;person f of p age 1;";
        FortyLetters x = Check.town(six);
        CHECK.due("all alike", x.rings(), 6);
        CHECK.dueLying(x, "0 1 2 3 4 5");
        String ring = "skill s;skill t;order x asks s 1 worth 5;order y asks t 1 worth 5;parish p;parish q;odds p x 1;odds q y 1;";
        x = Check.town(ring + "person a of p age 1 t 1;person b of p age 1 t 1;person c of q age 1 s 1;person d of q age 1 s 1;");
        CHECK.due("two and two", x.rings(), 20);
        CHECK.dueLying(x, "2 3 0 1");
        x = Check.town(ring + "person a of p age 1;person b of p age 1;person c of q age 1;");
        CHECK.due("none CAN do any", x.rings(), 0);
        CHECK.dueLying(x, "0 1 2");
    }

    private static void openingBounds() {
        CHECK.says(0, "in which order to open them now so that most are DONE; of like ones the first (PERSON by PERSON)");
        String three = "skill s;order x asks s 0;order y asks s 0;order z asks s 0;parish p;parish q;parish r;odds p x 1;odds q y 1;odds r z 1;"
            + "person a of p age 1;person b of q age 1;person c of r age 1;";
        String[][] due = {{"", "3", "0 1 2"}, {"undoes x y;", "3", "1 0 2"}, {"undoes x z;", "3", "1 2 0"}, {"undoes y z;", "3", "0 2 1"},
            {"undoes x y;undoes y x;", "2", "0 1 2"}, {"undoes x y;undoes y z;undoes z x;", "2", "0 1 2"},
            {"undoes x y;undoes x z;undoes y x;", "2", "1 0 2"}, {"undoes x y;undoes x z;", "3", "1 2 0"}};
        for (String[] row : due) {
            FortyLetters x = Check.town(three + row[0]);
            CHECK.due("opening(7) with " + row[0], x.opening(7), Integer.parseInt(row[1]));
            CHECK.dueLying(x, row[2]);
        }
        FortyLetters x = Check.town(three.replace("z asks s 0", "z asks s 1") + "undoes z y;");
        CHECK.due("what he can't do undoes none", x.opening(7), 2);
        CHECK.dueLying(x, "0 1 2");
        x = Check.town(three + "undoes x y;");
        x.opens(0);
        CHECK.due("what was DONE already does", x.opening(6), 1);
        CHECK.dueLying(x, "1 2");
        x = Check.town(THREE);
        CHECK.due("a BLANK is not DONE", x.opening(4), 0);
    }

    private static void lawBounds() {
        CHECK.says(0, "how many more PERSONS' LETTERS would be DONE behind 60 YEARS, if each that is not OPENED and holds the one held "
            + "the other one.");
        String one = "skill s;order x asks s 0;order y asks s 1;parish p;odds p x 1;person a of p age 0;open ";
        CHECK.due("the 60th YEAR counts", Check.town(one + "60;").law(0, 1), -1);
        FortyLetters x = Check.town("skill s;order x asks s 0;order y asks s 9;parish p;odds p y 1;person a of p age 1;person b of p age 1;"
            + "person c of p age 1;person d of p age 1;person e of p age 1;person f of p age 1;");
        CHECK.due("six more", x.law(1, 0), 6);
        CHECK.due("none holds it", x.law(0, 1), 0);
        x.opens(3);
        CHECK.due("five that are not OPENED", x.law(1, 0), 5);
        x = Check.town("skill s;order x asks s 0;order y asks s 9;parish p;odds p x 1;person a of p age 1;person b of p age 1;"
            + "person c of p age 1;person d of p age 1;person e of p age 1;person f of p age 1;");
        CHECK.due("six fewer", x.law(0, 1), -6);
        x.opens(0);
        CHECK.due("what is DONE stays", x.law(0, 1), -5);
        CHECK.due("all as it was", x.person(5, 4), 0);
        x = Check.town("skill s;order x asks s 0;order y asks s 0;order z asks s 9;parish p;parish q;parish r;odds p x 1;odds q y 1;"
            + "person a of p age 1;person b of q age 1;person c of r age 1;");
        CHECK.due("just his that holds the one", x.law(0, 2), -1);
        CHECK.due("just his that holds the other", x.law(1, 2), -1);
        CHECK.due("no BLANK is one", x.law(2, 0), 0);
        x = Check.town("skill s;order x asks s 0;order y asks s 9;order z asks s 1;parish p;odds p z 1;person a of p age 1;person b of p age 1;"
            + "person c of p age 1;person d of p age 1;person e of p age 1;person f of p age 1;");
        CHECK.due("levels are no ORDERS", x.law(0, 1), 0);
        CHECK.due("all six", x.law(2, 0), 6);
    }

    private static void odds() {
        CHECK.says(20, "ODDS the upper part (0), the lower part (1), in lowest terms (0 of 1)");
        String all = "skill s;order x asks s 0;order y asks s 1;parish p;person a of p age 1;odds p x ";
        oddsAre(Check.town(all + "6;odds p y 9;"), 0, 2, 5);
        oddsAre(Check.town(all + "9;odds p y 9;"), 0, 1, 2);
        oddsAre(Check.town(all + "7;odds p y 9;"), 0, 7, 16);
        oddsAre(Check.town(all + "7;"), 0, 1, 1);
        oddsAre(Check.town(all.replace("asks s 0", "asks s 2") + "8;odds p y 4;"), 0, 0, 1);
        StringBuilder eight = new StringBuilder("skill s;parish p;person a of p age 1;");
        for (char name = 'a'; name <= 'h'; name++) {
            eight.append("order ").append(name).append(" asks s ").append(name == 'd' ? 0 : 9).append(";odds p ").append(name).append(" 9;");
        }
        oddsAre(Check.town(eight.toString()), 0, 1, 8);

        CHECK.says(20, "NONE if his LETTER is OPENED, or one can't be.");
        FortyLetters x = Check.town(THREE);
        x.opens(0);
        int[][] refused = {{0, 0}, {0, 1}, {3, 0}, {-1, 1}, {1, 2}, {1, -1}, {MIN, 0}, {MAX, 0}, {1, MIN}, {1, MAX}};
        for (int[] row : refused) {
            CHECK.due("odds(" + row[0] + ", " + row[1] + ")", x.odds(row[0], row[1]), -1);
        }
        x.undo();
        oddsAre(x, 0, 0, 1);
    }

    private static void life() {
        CHECK.says(21, "(of 1, if he knows his LETTER, or it must be BLANK)");
        FortyLetters x = Check.town(THREE);
        lifeIs(x, 0, 6, "1 2");
        x.steam(0);
        lifeIs(x, 0, 1, "1 2");
        x.forge(0, 1);
        lifeIs(x, 0, 1, "0 3");
        x.forge(0, 2);
        lifeIs(x, 0, 0, "0 3");
        lifeIs(x, 2, 1, "0 1");
        x.forge(2, 2);
        lifeIs(x, 2, 0, "0 1");
        x.swap(0, 2);
        lifeIs(x, 2, 1, "0 1");
        lifeIs(x, 0, 6, "1 2");

        CHECK.says(21, "NONE if it can't be, or one can't be.");
        CHECK.due("13 years", Check.town("skill s;parish p;person a of p age 27;").life(0), -1);
        CHECK.due("without SKILLS", Check.town("parish p;person a of p age 39;").life(0), -1);
        x.opens(0);
        int[] refused = {0, 3, -1, MIN, MAX};
        for (int person : refused) {
            CHECK.due("life(" + person + ")", x.life(person), -1);
        }

        CHECK.says(21, "The years for each SKILL lie there then (behind NONE: nothing).");
        for (int person : refused) {
            lifeIs(x, 1, 9, "0 2");
            lifeIs(x, person, -1, "");
        }
        x.rings();
        lifeIs(x, 1, 9, "0 2");
        CHECK.due("no third", x.lies(2), -2);
    }

    private static void hope() {
        CHECK.says(22, "worths of ORDERS that he CAN do then (as of his ODDS; 1 of a BLANK), each by its odds, by all odds");
        String two = "skill s;order x asks s 0 worth 9;order y asks s 1 worth 3;parish p;parish q;odds p x 4;odds p y 2;"
            + "person a of p age 39;person b of q age 39;";
        FortyLetters x = Check.town(two);
        hopeIs(x, 0, 6, 1);
        hopeIs(x, 1, 1, 1);
        x.prepare(0, 0);
        hopeIs(x, 0, 7, 1);
        x.forge(0, 1);
        hopeIs(x, 0, 3, 1);
        x.prepare(0, -1);
        hopeIs(x, 0, 0, 1);
        x.forge(0, 0);
        hopeIs(x, 0, 9, 1);
        x.swap(0, 1);
        x.steam(0);
        hopeIs(x, 0, 1, 1);

        StringBuilder eight = new StringBuilder("skill s;parish p;person a of p age 1;");
        for (char name = 'a'; name <= 'h'; name++) {
            eight.append("order ").append(name).append(" asks s 0 worth 9;odds p ").append(name).append(" 9;");
        }
        hopeIs(Check.town(eight.toString()), 0, 9, 1);

        CHECK.says(22, "in lowest terms (0 of 1)");
        hopeIs(Check.town(eight.toString().replace("a asks s 0", "a asks s 1")), 0, 63, 8);
        hopeIs(Check.town(two.replace("worth 9", "worth 8")), 0, 16, 3);
        hopeIs(Check.town(two.replace("worth 9", "worth 1")), 0, 2, 3);
        hopeIs(Check.town(two.replace("asks s 0", "asks s 2")), 0, 0, 1);

        CHECK.says(22, "NONE if his LETTER is OPENED, or one can't be.");
        x = Check.town(THREE);
        x.opens(0);
        int[][] refused = {{0, 0}, {0, 1}, {3, 0}, {-1, 1}, {1, 2}, {1, -1}, {MIN, 0}, {MAX, 0}, {1, MIN}, {1, MAX}};
        for (int[] row : refused) {
            CHECK.due("hope(" + row[0] + ", " + row[1] + ")", x.hope(row[0], row[1]), -1);
        }
    }

    private static void able() {
        CHECK.says(23, "PERSONS whose LETTERS are not OPENED who CAN do an ORDER, as bits");
        FortyLetters x = Check.town("skill s;order x asks s 1;order y asks s 0;parish p;person a of p age 1 s 1;person b of p age 1;"
            + "person c of p age 1;person d of p age 1;person e of p age 1 s 0;person f of p age 1 s 20;");
        CHECK.due("the first and the last", x.able(0), 33);
        CHECK.due("all six", x.able(1), 63);
        x.steam(0);
        CHECK.due("a STEAMED one, too", x.able(0), 33);
        x.opens(5);
        CHECK.due("without the OPENED one", x.able(0), 1);
        x.opens(0);
        CHECK.due("none", x.able(0), 0);
        CHECK.due("none of two", Check.town("skill s;order x asks s 1;parish p;person a of p age 1;person b of p age 1;").able(0), 0);
        CHECK.due("the other of two", Check.town("skill s;order x asks s 1;parish p;person a of p age 1;person b of p age 1 s 1;").able(0), 2);
        CHECK.says(23, "NONE if there is none such.");
        int[] refused = {2, -1, 8, MIN, MAX};
        for (int order : refused) {
            CHECK.due("able(" + order + ")", x.able(order), -1);
        }
    }

    private static void ready() {
        CHECK.says(24, "How many years (0 .. 60) a PERSON would have to prepare the SKILL of an ORDER, from now on, till he CAN do it "
            + "(whatever open tells)");
        FortyLetters x = Check.town("skill s;order x asks s 0;order y asks s 1;order z asks s 20;parish p;person a of p age 39;"
            + "person b of p age 0 s 20;person c of p age 1 s 19;open 1;");
        CHECK.due("0 asked", x.ready(0, 0), 0);
        CHECK.due("one", x.ready(0, 1), 1);
        CHECK.due("twenty", x.ready(0, 2), 20);
        CHECK.due("has it already", x.ready(1, 2), 0);
        CHECK.due("lacks one", x.ready(2, 2), 1);
        x.prepare(0, -1);
        CHECK.due("whatever he prepares", x.ready(0, 1), 1);
        String slow = "skill s;order x asks s 1;parish p;person a of p age 39;open 40;teach age=";
        CHECK.due("60 years", Check.town(slow + "98;").ready(0, 0), 60);

        CHECK.says(24, "NONE if 60 are not enough, his LETTER is OPENED, or one can't be.");
        CHECK.due("61 years", Check.town(slow + "99;").ready(0, 0), -1);
        CHECK.due("never", Check.town(slow + "0;").ready(0, 0), -1);
        CHECK.due("by the year", Check.town(slow.replace("age=", "year=") + "59;").ready(0, 0), 60);
        CHECK.due("by the year, too late", Check.town(slow.replace("age=", "year=") + "60;").ready(0, 0), -1);
        x.opens(1);
        int[][] refused = {{1, 0}, {3, 0}, {-1, 0}, {0, 3}, {0, -1}, {MIN, 0}, {MAX, 0}, {0, MIN}, {0, MAX}};
        for (int[] row : refused) {
            CHECK.due("ready(" + row[0] + ", " + row[1] + ")", x.ready(row[0], row[1]), -1);
        }
    }

    private static void lost() {
        CHECK.says(25, "ORDERS for which his PARISH has odds that he CAN'T do when his LETTER is OPENED, whichever one SKILL he prepares "
            + "till then, as bits");
        String all = "skill s;skill t;order x asks s 3;order y asks s 4;order z asks t 3;order w asks t 4;order v asks t 20;parish p;parish q;"
            + "odds p x 1;odds p y 1;odds p z 1;odds p w 1;person a of p age ";
        CHECK.due("three years", Check.town(all + "37;").lost(0), 10);
        CHECK.due("four years", Check.town(all + "36;").lost(0), 0);
        CHECK.due("two years", Check.town(all + "38;").lost(0), 15);
        CHECK.due("one year, open told or not", Check.town(all + "39 s 3 t 2;open 1;").lost(0), 8);
        CHECK.due("without odds", Check.town(all.replace("of p", "of q") + "39;").lost(0), 0);
        FortyLetters x = Check.town(all + "38 s 3 t 3;");
        CHECK.due("what he CAN do is not", x.lost(0), 0);
        x.prepare(0, 0);
        x.steam(0);
        CHECK.due("whatever he prepares and knows", x.lost(0), 0);
        CHECK.due("the last of eight", Check.town("skill s;order a asks s 0;order b asks s 0;order c asks s 0;order d asks s 0;"
            + "order e asks s 0;order f asks s 0;order g asks s 0;order h asks s 9;parish p;odds p h 1;odds p a 1;person a of p age 39;")
            .lost(0), 128);
        CHECK.says(25, "NONE if it is OPENED, or there is none such.");
        x.opens(0);
        int[] refused = {0, 1, -1, MIN, MAX};
        for (int person : refused) {
            CHECK.due("lost(" + person + ")", x.lost(person), -1);
        }
    }

    private static void will() {
        CHECK.says(26, "WILL (n 0 .. 60): as person() tells it; NONE if one can't be.");
        FortyLetters x = Check.town(THREE);
        CHECK.due("n 0", x.will(0, 0), 0);
        CHECK.due("n 60", x.will(0, 60), 3);
        x.opens(2);
        CHECK.due("OPENED already", x.will(2, 0), 4);
        CHECK.due("and for ever", x.will(2, 60), 4);
        int[][] refused = {{0, -1}, {0, 61}, {3, 0}, {-1, 60}, {MIN, 0}, {MAX, 0}, {0, MIN}, {0, MAX}};
        for (int[] row : refused) {
            CHECK.due("will(" + row[0] + ", " + row[1] + ")", x.will(row[0], row[1]), -1);
        }
    }

    private static void first() {
        CHECK.says(27, "1: behind how many YEARS (1: the next one)");
        FortyLetters x = Check.town(THREE);
        CHECK.due("the next but one", x.first(1), 2);
        x.year();
        CHECK.due("the next one", x.first(1), 1);
        CHECK.says(27, "NONE if there is none, or for another what.");
        CHECK.due("what 2", x.first(2), -1);
        CHECK.due("what -1", x.first(-1), -1);
        CHECK.due("what MIN", x.first(MIN), -1);
        CHECK.due("what MAX", x.first(MAX), -1);
        CHECK.due("there is one", x.first(0), 1);
        x.opens(1);
        x.opens(0);
        CHECK.due("none is left", x.first(0), -1);
        CHECK.due("none is left", x.first(1), -1);
        CHECK.due("no PERSONS", new FortyLetters().first(1), -1);
        CHECK.due("just a BLANK", Check.town("parish p;person a of p age 1;").first(0), -1);
    }

    private static void rings() {
        CHECK.says(28, "Whose LETTER each PERSON has lies there then (NONE: his is OPENED).");
        FortyLetters x = Check.town(THREE);
        x.rings();
        CHECK.dueLying(x, "0 1 2");
        x.opens(1);
        x.rings();
        CHECK.dueLying(x, "0 -1 2");
        x.opens(0);
        x.opens(2);
        CHECK.due("what none has", x.rings(), 0);
        CHECK.dueLying(x, "-1 -1 -1");
        CHECK.due("none has anything", new FortyLetters().rings(), 0);
        x.town();
        x.rings();
        CHECK.dueLying(x, "");
    }

    private static void opening() {
        CHECK.says(29, "OPENING (a set of PERSONS, as bits): how many of them are DONE; NONE if one can't be.");
        String six = "skill s;order x asks s 0;order y asks s 1;parish p;odds p x 1;person a of p age 1;person b of p age 1;"
            + "person c of p age 1;person d of p age 1;person e of p age 1;person f of p age 1;";
        FortyLetters x = Check.town(six);
        CHECK.due("all six", x.opening(63), 6);
        CHECK.due("none", x.opening(0), 0);
        CHECK.due("the last", x.opening(32), 1);
        x.forge(5, 1);
        CHECK.due("the last, who can't", x.opening(32), 0);
        x.opens(1);
        int[] refused = {2, 3, 63, 64, 65, -1, 128, MIN, MAX, MIN | 1, 1 << 30};
        for (int set : refused) {
            CHECK.due("opening(" + set + ")", x.opening(set), -1);
        }
        CHECK.due("all that can be", x.opening(61), 4);

        CHECK.says(29, "The PERSONS lie there then, in their order (behind NONE: nothing).");
        x = Check.town(six + "undoes x y;");
        x.opening(63);
        CHECK.dueLying(x, "0 1 2 3 4 5");
        x.opening(0);
        CHECK.dueLying(x, "");
        x.forge(5, 1);
        x.opening(40);
        CHECK.dueLying(x, "3 5");
        for (int set : refused) {
            x.opens(1);
            x.opening(1);
            CHECK.due("one", x.about(14), 1);
            x.opening(set);
            CHECK.dueLying(x, "");
        }
    }

    private static void law() {
        CHECK.says(30, "-100 if one can't be (both alike, too).");
        FortyLetters x = Check.town(THREE);
        for (int order = 0; order < 3; order++) {
            CHECK.due("both alike", x.law(order, order), -100);
        }
        int[][] refused = {{0, 3}, {3, 0}, {-1, 0}, {0, -1}, {MIN, 0}, {MAX, 0}, {0, MIN}, {0, MAX}, {3, 3}, {-1, -1}};
        for (int[] row : refused) {
            CHECK.due("law(" + row[0] + ", " + row[1] + ")", x.law(row[0], row[1]), -100);
        }
        CHECK.due("the first and the last", x.law(0, 2), 0);
        CHECK.due("the last and the first", x.law(2, 0), 0);
    }

    private static void lies() {
        CHECK.says(31, "The i-th number of what lies there; -2 if there is none such.");
        FortyLetters x = Check.town(THREE);
        CHECK.due("nothing yet", x.lies(0), -2);
        int[] refused = {3, -1, 8, MIN, MAX};
        x.opening(6);
        x.opening(5);
        CHECK.due("lies(0)", x.lies(0), 0);
        CHECK.due("lies(1)", x.lies(1), 2);
        CHECK.due("lies(2), of an earlier one", x.lies(2), -2);
        x.rings();
        CHECK.due("lies(2)", x.lies(2), 2);
        for (int i : refused) {
            CHECK.due("lies(" + i + ")", x.lies(i), -2);
        }
    }
}
