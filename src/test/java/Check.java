/** Counts the answers that are as due, and tells of each one that is not. */
final class Check {
    private final String name;
    private int right = 0;
    private int wrong = 0;
    private String sentence = "";
    private int rightAhead = -1;

    Check(String name) {
        this.name = name;
    }

    /** What follows, up to the next sentence, tests these words of a promise (0: of what stands ahead of them all). */
    void says(int promise, String words) {
        leaveSentence();
        sentence = (promise == 0 ? "" : "promise " + promise + ", ") + "\"" + words + "\": ";
        rightAhead = right + wrong;
        if (!Document.says(promise, words)) {
            fail("the document has no such words there");
        }
    }

    /** A sentence that nothing was asked of is not tested. */
    private void leaveSentence() {
        if (rightAhead == right + wrong) {
            fail("nothing tests this");
        }
        sentence = "";
        rightAhead = -1;
    }

    void due(String call, long got, long want) {
        if (got == want) {
            right++;
        } else {
            fail(call + " answered " + got + ", due is " + want);
        }
    }

    void due(String call, boolean got, boolean want) {
        due(call, got ? 1 : 0, want ? 1 : 0);
    }

    void fail(String what) {
        wrong++;
        System.out.println(name + ": " + sentence + what);
    }

    void finish() {
        leaveSentence();
        System.out.println(name + ": " + right + " answers as due, " + wrong + " not");
        if (wrong != 0 || right == 0) {
            System.exit(1);
        }
    }

    /** Puts a text on the TAPE, behind what is there. */
    static int feed(FortyLetters x, String text) {
        int before = x.about(12);
        for (int from = 0; from < text.length(); from += 20) {
            int[] numbers = new int[5];
            for (int i = 0; i < 20; i++) {
                int sign = from + i < text.length() ? text.charAt(from + i) : 0;
                numbers[i / 4] = numbers[i / 4] << 8 | sign;
            }
            x.feed(numbers[0], numbers[1], numbers[2], numbers[3], numbers[4]);
        }
        return x.end(before + text.length());
    }

    static FortyLetters town(String text) {
        FortyLetters x = new FortyLetters();
        feed(x, text);
        if (x.town() < 0) {
            throw new IllegalStateException("FAULT " + x.fault(0) + " at " + x.fault(1) + " of " + text);
        }
        return x;
    }

    /** The text is no TOWN for that FAULT, and the object goes on. */
    void dueFault(String text, int fault, int place) {
        FortyLetters x = new FortyLetters();
        feed(x, text);
        due("town() of " + text, x.town(), -1);
        due("fault(0) of " + text, x.fault(0), fault);
        due("fault(1) of " + text, x.fault(1), place);
        due("then an empty town()", x.town(), 0);
        due("fault(0) then", x.fault(0), 0);
        due("fault(1) then", x.fault(1), -1);
    }

    /** The text is a TOWN of so many PERSONS. */
    FortyLetters dueTown(String text, int persons) {
        FortyLetters x = new FortyLetters();
        feed(x, text);
        due("town() of " + text, x.town(), persons);
        due("fault(0) of " + text, x.fault(0), 0);
        due("fault(1) of " + text, x.fault(1), -1);
        return x;
    }

    /** What lies there, as one text. */
    static String lying(FortyLetters x) {
        StringBuilder row = new StringBuilder();
        for (int i = 0; i < x.about(14); i++) {
            row.append(i == 0 ? "" : " ").append(x.lies(i));
        }
        return row.toString();
    }

    void dueLying(FortyLetters x, String want) {
        String got = lying(x);
        if (got.equals(want)) {
            right++;
        } else {
            fail("there lies \"" + got + "\", due is \"" + want + "\"");
        }
    }
}
