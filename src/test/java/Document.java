import java.io.IOException;
import java.io.UncheckedIOException;
import java.nio.file.Files;
import java.nio.file.Path;

/** The document that the tests quote, so that a test can't hold the class to words that stand nowhere. */
final class Document {
    private static final Path FILE = Path.of("../shared/DOC.md");
    private static final String TEXT = read();

    private Document() {
    }

    private static String read() {
        try {
            return Files.exists(FILE) ? Files.readString(FILE) : null;
        } catch (IOException e) {
            throw new UncheckedIOException(e);
        }
    }

    /** Whether the words stand in the promise's own section or in one that holds for all promises. */
    static boolean says(int promise, String words) {
        // where the document isn't at hand the class can still be tested
        return TEXT == null
                || section("What it is").contains(words)
                || section("Terms").contains(words)
                || section("Promise " + promise + ":").contains(words);
    }

    private static String section(String heading) {
        int start = TEXT.indexOf("\n## " + heading);
        if (start < 0) {
            return "";
        }
        int end = TEXT.indexOf("\n## ", start + 1);
        return TEXT.substring(start, end < 0 ? TEXT.length() : end);
    }
}
