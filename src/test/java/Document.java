import java.io.IOException;
import java.io.UncheckedIOException;
import java.nio.file.Files;
import java.nio.file.Path;

/** The words of ../shared/DOC.md, so that a test can name the sentence that it holds the class to. */
final class Document {
    private static final Document SHARED = new Document(Path.of("../shared/DOC.md"));
    private static final int PROMISES = 40;

    /** parts[n]: promise n; parts[0]: all that stands ahead of the promises. */
    private final String[] parts = new String[PROMISES + 1];

    private Document(Path path) {
        try {
            String[] pieces = Files.readString(path).split("## Promise \\d+: ");
            for (int i = 0; i < parts.length; i++) {
                parts[i] = pieces[i].split("## Not promised")[0].replaceAll("\\s+", " ");
            }
        } catch (IOException e) {
            throw new UncheckedIOException(e);
        }
    }

    /** What a promise says behind its face; 0: the Terms. */
    static String body(int promise) {
        String part = SHARED.parts[promise];
        return promise == 0 ? part.substring(part.indexOf("## Terms") + 8) : part.substring(part.indexOf("`: ") + 3);
    }

    static boolean says(int promise, String words) {
        return SHARED.parts[promise].contains(words);
    }
}
