import java.io.IOException;
import java.nio.file.Files;
import java.nio.file.Path;

/** The sections of the document, to hold the names of the tests against. */
final class Document {
    private static final Path FILE = Path.of("..", "shared", "DOC.md");

    private Document() {
    }

    static boolean isThere() {
        return Files.exists(FILE);
    }

    /** The words of a section, without the call that a promise begins with. */
    static String section(String title) {
        try {
            String all = Files.readString(FILE).replaceAll("\\s+", " ") + " ## ";
            int start = all.indexOf("## " + title + " ");
            if (start < 0) {
                return "";
            }
            int words = start + 3 + title.length();
            return all.substring(words, all.indexOf(" ## ", words)).replaceAll("`[^`]*`:", "");
        } catch (IOException unreadable) {
            return "";
        }
    }
}
