import java.io.IOException;
import java.io.UncheckedIOException;
import java.nio.file.Files;
import java.nio.file.Path;

/** The document's words, by the promise they stand under; what stands under "Terms" has the number 0. */
final class Document {
    static final int TERMS = 0;
    static final int PROMISES = 36;
    private static final String WORDS = read();

    private Document() { }

    private static String read() {
        try {
            return Files.readString(Path.of("../shared/DOC.md"));
        } catch (IOException gone) {
            throw new UncheckedIOException(gone);
        }
    }

    /** What stands under a heading, without the heading and without the call's own line of the face. */
    static String section(int promise) {
        int heading = WORDS.indexOf(promise == TERMS ? "\n## Terms\n" : "\n## Promise " + promise + ": ");
        if (heading < 0) {
            throw new IllegalStateException("the document has no promise " + promise);
        }
        int begun = WORDS.indexOf('\n', heading + 1);
        int end = WORDS.indexOf("\n## ", begun);
        return WORDS.substring(begun, end).replaceFirst("^\\s*`[^`]*`: ", "").replaceAll("```(text)?", "");
    }
}
