import java.io.IOException;
import java.nio.file.Files;
import java.nio.file.Path;
import java.util.List;
import java.util.regex.Matcher;
import java.util.regex.Pattern;
import java.util.stream.Collectors;
import java.util.stream.Stream;

/** No promise is without a sentence that is tested by itself; run from the project's folder. */
public final class CoverTest {
    private static final Check CHECK = new Check("CoverTest");

    public static void main(String[] args) throws IOException {
        List<Path> files;
        try (Stream<Path> all = Files.list(Path.of("src/test/java"))) {
            files = all.filter(file -> file.toString().endsWith("BoundsTest.java")).collect(Collectors.toList());
        }
        int[] sentences = new int[41];
        for (Path file : files) {
            Matcher says = Pattern.compile("CHECK\\.says\\((\\d+),").matcher(Files.readString(file));
            while (says.find()) {
                sentences[Integer.parseInt(says.group(1))]++;
            }
        }
        for (int promise = 0; promise < sentences.length; promise++) {
            CHECK.due("sentences of promise " + promise + " are tested", sentences[promise] > 0, true);
        }
        CHECK.finish();
    }
}
