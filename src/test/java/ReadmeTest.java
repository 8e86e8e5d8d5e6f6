import java.io.IOException;
import java.nio.file.Files;
import java.nio.file.Path;

/** The calls that README.md shows are made here, word for word; run from the project's folder. */
public final class ReadmeTest {
    private static final Check CHECK = new Check("ReadmeTest");

    public static void main(String[] args) throws IOException {
        String readme = Files.readString(Path.of("README.md"));
        firstTown();
        wholeTown(block(readme, "```text\n", 0));
        String own = Files.readString(Path.of("src/test/java/ReadmeTest.java"));
        int from = 0;
        for (int shown = 0; shown < 2; shown++) {
            from = readme.indexOf("```java\n", from) + 8;
            for (String line : readme.substring(from, readme.indexOf("```", from)).split("\n")) {
                String call = line.replaceAll(" *//.*", "").trim();
                CHECK.due("is made here: " + call, own.contains("        " + call + "\n"), true);
            }
        }
        for (var method : FortyLetters.class.getMethods()) {
            boolean isOwn = method.getDeclaringClass() == FortyLetters.class;
            CHECK.due("README.md names " + method.getName(), !isOwn || readme.contains("`" + method.getName() + "`"), true);
        }
        CHECK.due("README.md names .ci/run", readme.contains("\n.ci/run\n"), true);
        CHECK.finish();
    }

    private static String block(String text, String head, int from) {
        int start = text.indexOf(head, from) + head.length();
        return text.substring(start, text.indexOf("```", start));
    }

    private static void firstTown() {
        FortyLetters x = new FortyLetters();
        x.feed(0x736b696c, 0x6c207365, 0x773b0000, 0, 0);
        x.end(10);
        int persons = x.town();
        CHECK.due("persons", persons, 0);
        CHECK.due("the SKILL is there", x.about(1), 1);
    }

    private static void wholeTown(String text) {
        FortyLetters x = CHECK.dueTown(text, 1);
        int skillAhead = x.prepare(0, 1);
        int upper = x.odds(0, 0);
        int lower = x.odds(0, 1);
        int parts = x.life(0);
        int sewing = x.lies(0);
        int ringing = x.lies(1);
        int held = x.steam(0);
        int early = x.opens(0);
        boolean undone = x.undo();
        int opened = x.year() + x.year();
        int state = x.person(0, 1);
        CHECK.due("skillAhead", skillAhead, FortyLetters.NONE);
        CHECK.due("upper", upper, 1);
        CHECK.due("lower", lower, 4);
        CHECK.due("parts", parts, 3);
        CHECK.due("sewing", sewing, 1);
        CHECK.due("ringing", ringing, 1);
        CHECK.due("held", held, 0);
        CHECK.due("early", early, 3);
        CHECK.due("undone", undone, true);
        CHECK.due("opened", opened, 1);
        CHECK.due("state", state, 2);
    }
}
