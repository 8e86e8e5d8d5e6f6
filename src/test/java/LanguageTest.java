import java.io.IOException;
import java.nio.file.Files;
import java.nio.file.Path;
import java.util.regex.Matcher;
import java.util.regex.Pattern;

/** Some rules of LANGUAGE.md that can be seen in the text of the class; run from the project's folder. */
public final class LanguageTest {
    private static final Check CHECK = new Check("LanguageTest");
    private static final String[] FORBIDDEN = {"throw", "try", "catch", "finally", "synchronized", "assert", "import", "package",
        "protected", "volatile", "transient", "native", "equals", "hashCode", "toString", "System\\.(?!arraycopy)", "->", "::",
        "\\w+Exact", "Object", "var", "@"};

    public static void main(String[] args) throws IOException {
        String source = Files.readString(Path.of("src/main/java/FortyLetters.java"));
        String code = source.replaceAll("(?s)/\\*.*?\\*/", "").replaceAll("//[^\n]*", "");
        String bare = code.replaceAll("'\\\\?.'", "'x'").replaceAll("\"[^\"\n]*\"", "\"\"");
        for (String word : FORBIDDEN) {
            String edge = Character.isLetter(word.charAt(0)) ? "\\b" : "";
            CHECK.due("stands there: " + word, Pattern.compile(edge + word + (edge.isEmpty() || word.endsWith(")") ? "" : "\\b"))
                .matcher(bare).find(), false);
        }
        face(bare);
        methods(bare);
        CHECK.due("at most twelve classes", count(bare, "\\bclass \\w+") <= 12, true);
        CHECK.due("static fields are final", count(bare, "\\bstatic (?!final)[\\w\\[\\]]+ \\w+ *[=;]"), 0);
        for (int i = 0; i < source.length(); i++) {
            if (source.charAt(i) > 126) {
                CHECK.fail("a sign above 126 at " + i);
            }
        }
        CHECK.finish();
    }

    private static int count(String text, String pattern) {
        return (int) Pattern.compile(pattern).matcher(text).results().count();
    }

    private static void face(String code) {
        CHECK.due("public members", count(code, "\\n    public "), 41);
        CHECK.due("nothing but private and public stands in the class itself",
            count(code, "\\n    (?!public |private |\\})\\w"), 0);
        Matcher open = Pattern.compile("\\n    public \\w+ (\\w+)\\(").matcher(code);
        while (open.find()) {
            String name = open.group(1);
            CHECK.due("a private method named " + name,
                count(code, "\\n    (    )?(private |static )*[\\w\\[\\]]+ " + name + "\\([^)]*\\) \\{"), 0);
        }
    }

    private static void methods(String code) {
        Matcher head = Pattern.compile("\\n( {4}| {8})((?:private |public |static )*[\\w\\[\\]]* ?\\w+)\\(([^)]*)\\) \\{").matcher(code);
        int seen = 0;
        while (head.find()) {
            seen++;
            String body = code.substring(head.start() + 1, code.indexOf("\n" + head.group(1) + "}", head.end()));
            CHECK.due(head.group(2) + " is short", body.lines().count() <= 60, true);
            CHECK.due(head.group(2) + " takes at most seven", head.group(3).split(",").length <= 7, true);
        }
        CHECK.due("methods are seen", seen > 100, true);
    }
}
