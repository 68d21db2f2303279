import java.io.IOException;
import java.io.UncheckedIOException;
import java.nio.file.Files;
import java.nio.file.Path;

/** The document, part by part: tests name the sentence that they are due by, and it must stand there. */
final class Doc {
    static final int PROMISES = 62;
    private static final String TEXT = read();

    private Doc() { }

    private static String read() {
        try {
            return flat(Files.readString(Path.of("../shared/DOC.md")));
        } catch (IOException e) {
            throw new UncheckedIOException(e);
        }
    }

    private static String flat(String s) {
        return s.replaceAll("\\s+", " ");
    }

    /** Of 0: all that stands ahead of the first promise. */
    static String part(int promise) {
        int from = promise == 0 ? 0 : TEXT.indexOf("## Promise " + promise + ":");
        int behind = TEXT.indexOf("## Promise " + (promise + 1) + ":");
        if (from < 0) {
            return "";
        }
        return TEXT.substring(from, behind < 0 ? TEXT.indexOf("## Not promised") : behind);
    }

    static boolean says(int promise, String sentence) {
        return part(promise).contains(flat(sentence));
    }
}
