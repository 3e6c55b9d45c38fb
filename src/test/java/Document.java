import java.io.IOException;
import java.io.UncheckedIOException;
import java.nio.file.Files;
import java.nio.file.Path;

/** The document's own words, by which the tests of its sentences are named. To be read in the project's folder. */
final class Document {
    private static final Path DOC = Path.of("../shared/DOC.md");
    private static final String TEXT = text();

    private Document() {
    }

    private static String text() {
        try {
            return plain(Files.readString(DOC));
        } catch (IOException e) {
            throw new UncheckedIOException(e);
        }
    }

    private static String plain(String words) {
        return words.replaceAll("\\s+", " ");
    }

    static boolean says(String words) {
        return TEXT.contains(plain(words));
    }

    static boolean promises(int n, String words) {
        int from = TEXT.indexOf("## Promise " + n + ":");
        int to = TEXT.indexOf("## ", from + 3);
        return from >= 0 && to > from && TEXT.substring(from, to).contains(plain(words));
    }
}
