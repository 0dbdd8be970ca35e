import java.io.IOException;
import java.nio.file.Files;
import java.nio.file.Path;

/** The document, by its heads. */
final class Document {
    private static final Path PATH = Path.of("../shared/DOC.md");

    private Document() {
    }

    /** The text of a promise; for 0 all that stands ahead of the first one. */
    static String section(int promise) throws IOException {
        String all = Files.readString(PATH);
        if (promise == 0) {
            return all.substring(0, all.indexOf("\n## Promise 1:"));
        }
        int start = all.indexOf("\n## Promise " + promise + ":");
        int end = all.indexOf("\n## ", start + 1);
        return start < 0 || end < 0 ? "" : all.substring(start, end);
    }
}
