import java.io.IOException;
import java.nio.file.Files;
import java.nio.file.Path;
import java.util.List;
import java.util.regex.Matcher;
import java.util.regex.Pattern;
import java.util.stream.Collectors;
import java.util.stream.Stream;

/** No word of the Terms and of the promises is without a test that names it; run from the project's folder. */
public final class CoverTest {
    private static final Check CHECK = new Check("CoverTest");
    private static final Pattern SAYS = Pattern.compile("CHECK\\.says\\((\\d+),((?:\\s*\\+?\\s*\"[^\"]*\")+)\\)");
    private static final Pattern PIECE = Pattern.compile("\"([^\"]*)\"");
    private static final String HEADINGS = "==== \\d\\.|```text|TOKENS:|ACTS:";

    public static void main(String[] args) throws IOException {
        String tests = tests();
        for (int promise = 0; promise <= 40; promise++) {
            String left = wordsNotNamed(promise, tests);
            CHECK.due("words of promise " + promise + " that no test names: \"" + left + "\"", left.length(), 0);
        }
        CHECK.finish();
    }

    private static String tests() throws IOException {
        try (Stream<Path> all = Files.list(Path.of("src/test/java"))) {
            List<Path> files = all.filter(file -> file.toString().endsWith("Test.java")).collect(Collectors.toList());
            StringBuilder text = new StringBuilder();
            for (Path file : files) {
                text.append(Files.readString(file));
            }
            return text.toString();
        }
    }

    private static String wordsNotNamed(int promise, String tests) {
        String body = Document.body(promise);
        StringBuilder left = new StringBuilder(body);
        Matcher says = SAYS.matcher(tests);
        while (says.find()) {
            if (Integer.parseInt(says.group(1)) == promise) {
                strike(left, body, literal(says.group(2)));
            }
        }
        return left.toString().replaceAll(HEADINGS, "").replaceAll("[^a-zA-Z0-9]+", " ").trim();
    }

    private static String literal(String pieces) {
        StringBuilder words = new StringBuilder();
        Matcher piece = PIECE.matcher(pieces);
        while (piece.find()) {
            words.append(piece.group(1));
        }
        return words.toString();
    }

    private static void strike(StringBuilder left, String body, String words) {
        for (int at = body.indexOf(words); at >= 0; at = body.indexOf(words, at + 1)) {
            for (int i = at; i < at + words.length(); i++) {
                left.setCharAt(i, ' ');
            }
        }
    }
}
