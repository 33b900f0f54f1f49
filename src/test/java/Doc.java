import java.io.IOException;
import java.io.UncheckedIOException;
import java.nio.file.Files;
import java.nio.file.Path;

/** The document's own words: a test of an edge says by them which sentence it is about. */
final class Doc {
    private static final String TEXT = read();

    private Doc() {
    }

    /** These words stand in the document; so a test can't be about a sentence that is none. */
    static void says(String words) {
        Due.holds("the document says: " + words, TEXT.contains(words));
    }

    /** The whole document, with one blank wherever there are blanks or ends of lines. */
    static String text() {
        return TEXT;
    }

    private static String read() {
        try {
            return Files.readString(Path.of("../shared/DOC.md")).replaceAll("\\s+", " ");
        } catch (IOException e) {
            throw new UncheckedIOException(e);
        }
    }
}
