/** Promises 32 to 37: SIGNS in two times, MEANT and ASK. */
public final class SignsTest {
    private static final Check CHECK = new Check("SignsTest");
    private static final String TOWN = "skill s;skill t;order a asks s 1 seal 1 weight 5;order b asks t 1 seal 2 weight 5;"
        + "order c asks t 1 seal 2 weight 6;order d asks s 1 seal 3 weight 6;parish p;parish q;"
        + "odds p a 2;odds p b 3;odds p c 3;person x of p age 1;person y of q age 1;person z of p age 1;";

    public static void main(String[] args) {
        sign();
        untell();
        later();
        meant();
        likely();
        ask();
        CHECK.finish();
    }

    private static void sign() {
        FortyLetters x = Check.town(TOWN);
        CHECK.due("the first", x.sign(0, 0, 0, true), 0);
        CHECK.due("the next", x.sign(2, 2, 9, false), 1);
        CHECK.due("no PERSON", x.sign(3, 0, 0, true), -1);
        CHECK.due("PERSON -1", x.sign(-1, 0, 0, true), -1);
        CHECK.due("what 3", x.sign(0, 3, 0, true), -1);
        CHECK.due("what -1", x.sign(0, -1, 0, true), -1);
        CHECK.due("number 10", x.sign(0, 0, 10, true), -1);
        CHECK.due("number -1", x.sign(0, 0, -1, true), -1);
        CHECK.due("two are told", x.about(10), 2);
        for (int i = 2; i < 30; i++) {
            CHECK.due("one more", x.sign(1, 1, 4, true), i);
        }
        CHECK.due("30 at most", x.sign(0, 0, 0, true), -1);
        CHECK.due("30 are told", x.about(10), 30);
        CHECK.due("MEANT of 30 SIGNS", x.meant(2, 0), 7);
        CHECK.due("no thirty-first", x.untell(30), false);
        x.untell(0);
        CHECK.due("an UNTOLD one is one, too", x.sign(0, 0, 0, true), -1);
        CHECK.due("no ACTS", x.about(8), 0);
    }

    private static void untell() {
        FortyLetters x = Check.town(TOWN);
        CHECK.due("none is told", x.untell(0), false);
        x.sign(0, 0, 1, true);
        CHECK.due("below 0", x.untell(-1), false);
        CHECK.due("not told yet", x.untell(1), false);
        CHECK.due("UNTOLD at once", x.untell(0), true);
        CHECK.due("so already", x.untell(0), false);
        CHECK.due("it counts at no time", x.meant(0, 0), 7);
        x.later(3);
        x.sign(0, 0, 1, true);
        x.later(2);
        CHECK.due("later", x.untell(1), true);
        CHECK.due("known at 2", x.meant(0, 2), 7);
        CHECK.due("known at 3", x.meant(0, 3), 1);
        CHECK.due("known at 4", x.meant(0, 4), 1);
        CHECK.due("known at 5", x.meant(0, 5), 7);
        x.sign(0, 0, 1, true);
        x.town();
        CHECK.due("told of an earlier TOWN", x.untell(2), false);
        CHECK.due("none is told", x.untell(0), false);
    }

    private static void later() {
        FortyLetters x = new FortyLetters();
        CHECK.due("no later", x.later(0), 0);
        CHECK.due("below 0", x.later(-1), -1);
        CHECK.due("above 1000", x.later(1001), -1);
        for (int i = 1; i <= 99; i++) {
            CHECK.due("1000 later", x.later(1000), i * 1000);
        }
        CHECK.due("999 later", x.later(999), 99999);
        CHECK.due("above 100000", x.later(2), -1);
        CHECK.due("the TIME stays", x.about(11), 99999);
        CHECK.due("100000", x.later(1), 100000);
        CHECK.due("not above", x.later(1), -1);
        CHECK.due("0 at the end", x.later(0), 100000);
    }

    private static void meant() {
        FortyLetters x = Check.town(TOWN);
        CHECK.due("all with odds", x.meant(0, 0), 7);
        CHECK.due("without odds", x.meant(1, 0), 0);
        CHECK.due("no such", x.meant(3, 0), -1);
        CHECK.due("below 0", x.meant(-1, 0), -1);
        x.later(5);
        x.sign(0, 0, 2, true);
        CHECK.due("not known yet", x.meant(0, 4), 7);
        CHECK.due("its seal is 2", x.meant(0, 5), 6);
        CHECK.due("known later, too", x.meant(0, 1000000), 6);
        CHECK.due("ahead of all times", x.meant(0, -1), 7);
        CHECK.due("another PERSON", x.meant(2, 5), 7);
        x.sign(0, 1, 6, false);
        CHECK.due("its weight is not 6", x.meant(0, 5), 2);
        x.sign(0, 2, 0, true);
        CHECK.due("it asks for s", x.meant(0, 5), 0);
        x.untell(0);
        CHECK.due("so it is a", x.meant(0, 5), 1);
        x.sign(2, 2, 1, true);
        CHECK.due("it asks for t", x.meant(2, 5), 6);
        x.sign(2, 0, 7, false);
        CHECK.due("its seal is not 7", x.meant(2, 5), 6);
        x.sign(2, 1, 7, true);
        CHECK.due("no weight of 7", x.meant(2, 5), 0);
        x.opens(2);
        CHECK.due("OPENED, all the same", x.meant(2, 0), 7);
    }

    private static void likely() {
        FortyLetters x = Check.town(TOWN);
        CHECK.due("the first of the greatest", x.likely(0, 0), 1);
        CHECK.due("none is MEANT", x.likely(1, 0), -1);
        CHECK.due("no such", x.likely(3, 0), -1);
        CHECK.due("below 0", x.likely(-1, 0), -1);
        x.sign(0, 1, 5, false);
        CHECK.due("of those MEANT", x.likely(0, 0), 2);
        CHECK.due("as known ahead", x.likely(0, -1), 1);
        x.sign(0, 2, 0, true);
        CHECK.due("none fits", x.likely(0, 0), -1);
        x.sign(2, 2, 0, true);
        CHECK.due("a", x.likely(2, 0), 0);
    }

    private static void askIs(FortyLetters x, int person, int k, int which, int left) {
        CHECK.due("ask(" + person + ", 0)", x.ask(person, 0, k), which);
        CHECK.due("ask(" + person + ", 1)", x.ask(person, 1, k), left);
    }

    private static void ask() {
        FortyLetters x = Check.town(TOWN);
        askIs(x, 0, 0, 0, 2);
        askIs(x, 1, 0, -1, -1);
        askIs(x, 3, 0, -1, -1);
        askIs(x, -1, 0, -1, -1);
        CHECK.due("what 2", x.ask(0, 2, 0), -1);
        CHECK.due("what -1", x.ask(0, -1, 0), -1);
        x.later(1);
        x.sign(0, 0, 2, true);
        askIs(x, 0, 1, 1, 1);
        askIs(x, 0, 0, 0, 2);
        x.sign(0, 1, 6, true);
        askIs(x, 0, 1, 0, 1);
        x = Check.town("skill s;skill t;skill u;order a asks s 1;order b asks t 1;order c asks u 1;order d asks u 1;"
            + "parish p;odds p a 1;odds p b 1;odds p c 1;odds p d 1;person x of p age 1;");
        askIs(x, 0, 0, 2, 2);
        x.sign(0, 2, 2, false);
        askIs(x, 0, 0, 2, 1);
        x.sign(0, 0, 1, true);
        askIs(x, 0, 0, -1, -1);
        StringBuilder eight = new StringBuilder("skill s;parish p;");
        for (char name = 'a'; name <= 'h'; name++) {
            eight.append("order ").append(name).append(" asks s 1;odds p ").append(name).append(" 1;");
        }
        askIs(Check.town(eight + "person x of p age 1;"), 0, 0, 0, 8);
    }
}
