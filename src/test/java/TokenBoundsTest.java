/** Each sentence of the Terms that bounds a TOKEN or a NAME, tested by itself. */
public final class TokenBoundsTest {
    private static final Check CHECK = new Check("TokenBoundsTest");
    private static final String[] WORDS = {"skill", "order", "asks", "seal", "weight", "worth", "parish", "odds", "person", "of", "age",
        "undoes", "teach", "open", "draw", "or", "and", "not", "level", "year", "which"};
    private static final String HEAD = "skill s;order x asks s 1;parish p;";

    public static void main(String[] args) {
        words();
        numbers();
        signs();
        blanks();
        longest();
        letterBehindNumber();
        noTokens();
        wordsAreNoNames();
        CHECK.finish();
    }

    private static void words() {
        CHECK.says(0, "words (a .. z, 8 at most)");
        CHECK.dueTown("skill a;skill z;", 0);
        CHECK.dueTown("skill azazazaz;", 0);
        CHECK.dueFault("skill azazazaza;", 1, 6);
        CHECK.dueFault("skill ;azazazaza;", 2, 6);
        CHECK.dueFault("skill `;", 1, 6);
        CHECK.dueFault("skill {;", 1, 6);
        CHECK.dueFault("skill A;", 1, 6);
        CHECK.dueFault("skill a`;", 1, 7);
        CHECK.dueFault("skill a{;", 1, 7);
        CHECK.dueFault("skill aB;", 1, 7);
        // two words are unlike by any one of their letters
        CHECK.dueTown("skill zzzzzzzz;skill azzzzzzz;skill zzzzzzza;skill zzzzzzz;", 0);
        CHECK.dueFault("skill zzzzzzzz;skill zzzzzzzz;", 3, 21);
    }

    private static void numbers() {
        CHECK.says(0, "N (1 to 4 digits)");
        CHECK.due("one digit", CHECK.dueTown("open 7;", 0).about(7), 7);
        CHECK.due("four digits", CHECK.dueTown("draw 0907;", 0).about(6), 907);
        CHECK.due("all of them 0", CHECK.dueTown("draw 0000;", 0).about(6), 0);
        CHECK.dueTown("teach 9999;", 0);
        CHECK.dueFault("draw 00007;", 1, 5);
        CHECK.dueFault("teach 10000;", 1, 6);
        CHECK.dueFault("teach " + "0".repeat(100) + ";", 1, 6);
        CHECK.dueFault("draw :;", 1, 5);
        CHECK.dueFault("draw 7:;", 1, 6);
    }

    private static void signs() {
        CHECK.says(0, "signs ; ( ) < > = + - * / %");
        for (int sign = 0; sign < 256; sign++) {
            boolean isToken = sign >= 'a' && sign <= 'z' || sign >= '0' && sign <= '9' || ";()<>=+-*/%".indexOf(sign) >= 0;
            if (sign == 32 || sign == 10) {
                CHECK.dueTown("" + (char) sign, 0);
            } else {
                CHECK.dueFault("" + (char) sign, isToken ? 2 : 1, 0);
            }
        }
    }

    private static void blanks() {
        CHECK.says(0, "blanks (32, 10) part them or not");
        CHECK.dueTown(" \n skill\ns\n; order  x\n\nasks s 7 seal 1 ;open 7;\n", 0);
        CHECK.dueTown("skill s;order x asks s7 seal1 weight2 worth3;open7;draw9;teach(1)or(2)and not(3);", 0);
        CHECK.dueFault("sk ill s;", 2, 0);
        CHECK.dueFault("skills;", 2, 0);
        CHECK.dueFault("open 1\n2;", 2, 7);
        CHECK.dueFault("teach 1 <\n= 2;", 2, 10);
        int[] others = {0, 9, 11, 13, 31, 33, 127, 128, 160, 255};
        for (int other : others) {
            CHECK.dueFault("open 7" + (char) other + ";", 1, 6);
            CHECK.dueFault("open" + (char) other + "7;", 1, 4);
        }
    }

    private static void longest() {
        CHECK.says(0, "each is as long as can be");
        CHECK.dueTown("skill skillx;skill orders;skill o;", 0);
        CHECK.dueFault("skillx y;", 2, 0);
        CHECK.dueFault("ope n 7;", 2, 0);
        CHECK.due("two digits are one N", CHECK.dueTown("open12;", 0).about(7), 12);
        CHECK.dueFault("teach level1;", 2, 11);
        CHECK.dueFault("teach levels;", 2, 6);
        CHECK.dueFault("teach 1 ornot 2;", 2, 8);
        CHECK.dueFault("teach 1 andy;", 2, 8);
    }

    private static void letterBehindNumber() {
        CHECK.says(0, "no letter directly behind an N");
        CHECK.dueFault("open 7a;", 1, 5);
        CHECK.dueFault("open 7z;", 1, 5);
        CHECK.dueFault("teach 1or 2;", 1, 6);
        CHECK.dueFault("teach 1+23and 4;", 1, 8);
        CHECK.dueTown("teach 1 or 2;", 0);
        CHECK.dueTown("teach 1\nor 2;", 0);
        CHECK.dueFault("open 7 a;", 2, 7);
        // a sign behind an N, and an N behind a letter, may well be
        CHECK.dueTown("teach level*1-1/2;", 0);
        CHECK.dueTown("skill s;parish p;person a of p age7 s8;", 1);
        CHECK.dueFault("skill s;parish p;person a of p age 7s 8;", 1, 35);
    }

    private static void noTokens() {
        CHECK.says(0, "(what is none of these, a longer word, more digits, a number with a letter behind it: no TOKEN, at its first byte)");
        CHECK.dueFault("open \n!;", 1, 6);
        CHECK.dueFault("open 7!", 1, 6);
        CHECK.dueFault("skill  abcdefghi;", 1, 7);
        CHECK.dueFault("skill abcdefghijklmnopqrstuvwxyz;", 1, 6);
        CHECK.dueFault("abcdefghi 1;", 1, 0);
        CHECK.dueFault("skill abcdefghi1;", 1, 6);
        CHECK.dueFault("open \n12345;", 1, 6);
        CHECK.dueFault("12345", 1, 0);
        CHECK.dueFault("open 1234a;", 1, 5);
        CHECK.dueFault("open 12345a;", 1, 5);
        CHECK.dueFault("open 1abcdefghi;", 1, 5);
        CHECK.dueFault("open 5open 5;", 1, 5);
        CHECK.dueFault("open 5;\u00ff", 1, 7);
    }

    /** In every place where a NAME stands. */
    private static void wordsAreNoNames() {
        CHECK.says(0, "Words that stand for themselves here are no NAMES.");
        String[] heads = {"skill ", HEAD + "order ", HEAD + "order y asks ", "parish ", HEAD + "odds ", HEAD + "odds p ", HEAD + "person ",
            HEAD + "person a of ", HEAD + "undoes ", HEAD + "undoes x "};
        for (String word : WORDS) {
            for (String head : heads) {
                CHECK.dueFault(head + word, 2, head.length());
            }
            String skills = HEAD + "person a of p age 1 s 1 ";
            CHECK.dueFault(skills + word, 2, skills.length());
            CHECK.dueTown("skill " + word + "x;parish x" + word + ";", 0);
        }
        // these stand for what is told of them, not for themselves
        String[] free = {"town", "line", "name", "n", "e", "both", "one", "sum", "term", "unit", "steam", "undo", "asked", "ask"};
        for (String word : free) {
            CHECK.dueTown("skill " + word + ";order " + word + " asks " + word + " 1;", 0);
        }
    }
}
