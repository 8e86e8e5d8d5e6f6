/** Promises 20 to 27: ODDS, LIFE, HOPE, who CAN, and what YEARS bring. */
public final class OutlookTest {
    private static final Check CHECK = new Check("OutlookTest");
    private static final String TOWN = "skill s;skill t;order x asks s 3 worth 2;order y asks t 2 worth 5;order z asks t 9;"
        + "parish p;parish q;odds p x 4;odds p y 2;person a of p age 36 s 1;person b of p age 30 t 2;person c of q age 39;";

    public static void main(String[] args) {
        odds();
        knowing();
        hope();
        life();
        longLives();
        able();
        ready();
        lost();
        will();
        first();
        nothingIsDone();
        CHECK.finish();
    }

    private static void oddsAre(FortyLetters x, int person, int upper, int lower) {
        CHECK.due("odds(" + person + ", 0)", x.odds(person, 0), upper);
        CHECK.due("odds(" + person + ", 1)", x.odds(person, 1), lower);
    }

    private static void hopeIs(FortyLetters x, int person, int upper, int lower) {
        CHECK.due("hope(" + person + ", 0)", x.hope(person, 0), upper);
        CHECK.due("hope(" + person + ", 1)", x.hope(person, 1), lower);
    }

    private static void odds() {
        FortyLetters x = Check.town(TOWN);
        oddsAre(x, 0, 0, 1);
        oddsAre(x, 1, 1, 3);
        oddsAre(x, 2, 1, 1);
        x.prepare(0, 0);
        oddsAre(x, 0, 2, 3);
        x.prepare(1, 0);
        oddsAre(x, 1, 1, 1);
        x.prepare(0, 1);
        oddsAre(x, 0, 1, 3);
        CHECK.due("part 2", x.odds(0, 2), -1);
        CHECK.due("part -1", x.odds(0, -1), -1);
        CHECK.due("no such", x.odds(3, 0), -1);
        CHECK.due("below 0", x.odds(-1, 0), -1);
        x.opens(0);
        CHECK.due("OPENED", x.odds(0, 0), -1);
        x = Check.town(TOWN + "teach 2;open 37;");
        x.prepare(0, 0);
        oddsAre(x, 0, 2, 3);
        x = Check.town(TOWN + "open 37;");
        x.prepare(0, 0);
        oddsAre(x, 0, 0, 1);
        x = Check.town(TOWN + "teach 2;open 1;");
        x.prepare(0, 0);
        oddsAre(x, 0, 2, 3);
        x = Check.town(TOWN + "teach age=39;open 40;");
        x.prepare(1, 1);
        x.prepare(0, 0);
        oddsAre(x, 0, 0, 1);
        oddsAre(x, 1, 1, 3);
        x = Check.town(TOWN + "teach year>2 and which=0;open 41;");
        x.prepare(0, 0);
        oddsAre(x, 0, 2, 3);
    }

    private static void knowing() {
        FortyLetters x = Check.town(TOWN);
        int held = x.steam(0);
        x.prepare(0, 0);
        oddsAre(x, 0, held == 0 ? 1 : 0, 1);
        x.forge(0, 2);
        oddsAre(x, 0, 0, 1);
        hopeIs(x, 0, 0, 1);
        x.forge(0, 0);
        oddsAre(x, 0, 1, 1);
        hopeIs(x, 0, 2, 1);
        x.swap(0, 2);
        oddsAre(x, 0, 2, 3);
        oddsAre(x, 2, 1, 1);
        hopeIs(x, 2, 1, 1);
        x.steam(0);
        oddsAre(x, 0, 1, 1);
        hopeIs(x, 0, 1, 1);
        x.steam(2);
        oddsAre(x, 2, 0, 1);
        hopeIs(x, 2, 0, 1);
    }

    private static void hope() {
        FortyLetters x = Check.town(TOWN);
        hopeIs(x, 0, 0, 1);
        hopeIs(x, 1, 5, 3);
        hopeIs(x, 2, 1, 1);
        x.prepare(1, 0);
        hopeIs(x, 1, 3, 1);
        CHECK.due("part 2", x.hope(0, 2), -1);
        CHECK.due("part -1", x.hope(0, -1), -1);
        CHECK.due("no such", x.hope(3, 0), -1);
        CHECK.due("below 0", x.hope(-1, 1), -1);
        x.opens(1);
        CHECK.due("OPENED", x.hope(1, 0), -1);
    }

    private static void lifeIs(FortyLetters x, int person, int parts, String years) {
        CHECK.due("life(" + person + ")", x.life(person), parts);
        CHECK.dueLying(x, years);
    }

    private static void life() {
        FortyLetters x = Check.town(TOWN);
        lifeIs(x, 0, 6, "2 2");
        lifeIs(x, 1, 6, "3 7");
        lifeIs(x, 2, 1, "0 1");
        x.forge(0, 2);
        lifeIs(x, 0, 0, "0 4");
        x.forge(0, 1);
        lifeIs(x, 0, 1, "0 4");
        x.forge(0, 0);
        lifeIs(x, 0, 1, "2 2");
        x.swap(0, 2);
        lifeIs(x, 0, 6, "2 2");
        x.steam(0);
        lifeIs(x, 0, 1, "0 4");
        x.opens(0);
        lifeIs(x, 0, -1, "");
        lifeIs(x, 2, 1, "0 1");
        lifeIs(x, 3, -1, "");
        lifeIs(x, -1, -1, "");
        x = Check.town(TOWN + "open 38;");
        lifeIs(x, 0, 4, "2 0");
        x = Check.town(TOWN + "open 37;");
        lifeIs(x, 0, 0, "0 1");
        x = Check.town(TOWN + "open 30;");
        lifeIs(x, 1, 2, "0 1");
    }

    private static void longLives() {
        String text = "skill s;skill t;skill u;skill v;order w asks s 2;order x asks t 3;order y asks u 4;order z asks v 4;"
            + "parish p;odds p w 1;odds p x 1;odds p y 1;odds p z 2;person a of p age 20;";
        lifeIs(Check.town(text + "open 32;"), 0, 4, "0 3 4 5");
        lifeIs(Check.town(text + "open 33;"), 0, -1, "");
        lifeIs(Check.town(text + "open 29;"), 0, 4, "2 3 0 4");
        lifeIs(Check.town(text + "open 28;"), 0, 3, "0 0 4 4");
        // One behind the other: the years of the first SKILL have gone when the next one's begin.
        lifeIs(Check.town(text + "teach 2*(age>24);open 30;"), 0, 4, "6 0 2 2");
        lifeIs(Check.town("parish p;person a of p age 39;"), 0, -1, "");
        lifeIs(Check.town("skill s;parish p;person a of p age 28;"), 0, 1, "12");
        lifeIs(Check.town("skill s;parish p;person a of p age 27;"), 0, -1, "");
    }

    private static void able() {
        FortyLetters x = Check.town(TOWN + "person d of q age 1 t 20 s 20;");
        CHECK.due("able(0)", x.able(0), 8);
        CHECK.due("able(1)", x.able(1), 10);
        CHECK.due("able(2)", x.able(2), 8);
        CHECK.due("no such", x.able(3), -1);
        CHECK.due("below 0", x.able(-1), -1);
        x.opens(3);
        CHECK.due("without OPENED ones", x.able(1), 2);
    }

    private static void ready() {
        FortyLetters x = Check.town(TOWN + "teach level<5 or age>80;open 37;");
        CHECK.due("two YEARS", x.ready(0, 0), 2);
        CHECK.due("none", x.ready(1, 1), 0);
        CHECK.due("never within 60", x.ready(1, 2), 55);
        CHECK.due("three from nothing", x.ready(2, 0), 3);
        CHECK.due("no PERSON", x.ready(3, 0), -1);
        CHECK.due("PERSON -1", x.ready(-1, 0), -1);
        CHECK.due("no ORDER", x.ready(0, 3), -1);
        CHECK.due("ORDER -1", x.ready(0, -1), -1);
        x.opens(1);
        CHECK.due("OPENED", x.ready(1, 1), -1);
        String text = "skill s;order x asks s 1;parish p;person a of p age 0;teach age=";
        CHECK.due("60 YEARS", Check.town(text + "59;").ready(0, 0), 60);
        CHECK.due("61 YEARS", Check.town(text + "60;").ready(0, 0), -1);
        CHECK.due("by the year", Check.town(text + "2 and year=2;").ready(0, 0), 3);
    }

    private static void lost() {
        FortyLetters x = Check.town(TOWN + "odds p z 1;");
        CHECK.due("lost(0)", x.lost(0), 4);
        CHECK.due("lost(1)", x.lost(1), 0);
        CHECK.due("lost(2)", x.lost(2), 0);
        x.prepare(0, 1);
        CHECK.due("whatever he prepares now", x.lost(0), 4);
        CHECK.due("no such", x.lost(3), -1);
        CHECK.due("below 0", x.lost(-1), -1);
        x.opens(0);
        CHECK.due("OPENED", x.lost(0), -1);
        x = Check.town(TOWN + "odds p z 1;open 37;");
        CHECK.due("one YEAR", x.lost(0), 7);
        CHECK.due("seven YEARS", x.lost(1), 0);
    }

    private static void will() {
        FortyLetters x = Check.town(TOWN + "open 39;");
        x.forge(0, 0);
        x.prepare(0, 0);
        CHECK.due("now", x.will(0, 0), 1);
        CHECK.due("behind 2", x.will(0, 2), 1);
        CHECK.due("behind 3", x.will(0, 3), 2);
        CHECK.due("behind 60", x.will(0, 60), 2);
        CHECK.due("behind 61", x.will(0, 61), -1);
        CHECK.due("behind -1", x.will(0, -1), -1);
        CHECK.due("no such", x.will(3, 1), -1);
        CHECK.due("below 0", x.will(-1, 1), -1);
        CHECK.due("BLANK", x.will(2, 1), 4);
        x.opens(2);
        CHECK.due("OPENED already", x.will(2, 0), 4);
    }

    private static void first() {
        FortyLetters x = Check.town(TOWN);
        CHECK.due("first(0)", x.first(0), 0);
        CHECK.due("first(1)", x.first(1), 4);
        CHECK.due("first(2)", x.first(2), -1);
        CHECK.due("first(-1)", x.first(-1), -1);
        x.opens(0);
        CHECK.due("it FAILED already", x.person(0, 1), 3);
        x.forge(1, 2);
        CHECK.due("the next one", x.first(0), 1);
        CHECK.due("behind 10", x.first(1), 10);
        x.forge(2, 0);
        CHECK.due("one that is earlier", x.first(0), 2);
        CHECK.due("in the next YEAR", x.first(1), 1);
        x = Check.town(TOWN.replace("age 30 t 2", "age 36"));
        CHECK.due("of like ones the first", x.first(0), 0);
        x.prepare(0, x.person(0, 4));
        CHECK.due("then the other", x.first(0), 1);
        x.prepare(1, x.person(1, 4));
        CHECK.due("none", x.first(0), -1);
        CHECK.due("none", x.first(1), -1);
        String late = "skill s;order x asks s 1;parish p;odds p x 1;person a of p age 0;open ";
        CHECK.due("behind 60", Check.town(late + "60;").first(1), 60);
        CHECK.due("undone by the one ahead of him", Check.town("skill s;order x asks s 0;order y asks s 0;parish p;parish q;"
            + "odds p x 1;odds q y 1;person a of p age 1;person b of q age 1;undoes x y;").first(0), 1);
    }

    private static void nothingIsDone() {
        FortyLetters x = Check.town(TOWN);
        x.prepare(0, 0);
        x.odds(0, 0);
        x.hope(0, 0);
        x.life(0);
        x.ready(0, 0);
        x.lost(0);
        x.will(0, 60);
        x.first(0);
        x.law(0, 1);
        x.rings();
        x.opening(7);
        CHECK.due("no more ACTS", x.about(8), 1);
        CHECK.due("the year", x.about(5), 0);
        CHECK.due("his age", x.person(0, 0), 36);
        CHECK.due("his level", x.level(0, 0), 1);
        CHECK.due("all SEALED", x.many(0), 3);
        CHECK.due("he prepares", x.person(0, 2), 0);
    }
}
