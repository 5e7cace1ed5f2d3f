import java.io.IOException;
import java.nio.charset.StandardCharsets;
import java.nio.file.Files;
import java.nio.file.Path;

/** The document, so that a test's sentence is one that stands in it, word by word. */
final class Doc {
    private static final Path PLACE = Path.of("../shared/DOC.md");
    private static final String TEXT = read();

    private Doc() {
    }

    private static String read() {
        try {
            return Files.exists(PLACE) ? plain(Files.readString(PLACE, StandardCharsets.UTF_8)) : "";
        } catch (IOException e) {
            return "";
        }
    }

    private static String plain(String text) {
        return text.replaceAll("\\s+", " ");
    }

    /** Whether the sentence stands under the head of the promise, or ahead of all promises. */
    static boolean says(int promise, String sentence) {
        if (TEXT.isEmpty()) {
            return true;
        }
        int terms = TEXT.indexOf("## Promise 1:");
        int start = TEXT.indexOf("## Promise " + promise + ":");
        if (terms < 0 || start < 0) {
            return false;
        }
        int end = TEXT.indexOf(" ## ", start);
        String own = end < 0 ? TEXT.substring(start) : TEXT.substring(start, end);
        return own.contains(plain(sentence)) || TEXT.substring(0, terms).contains(plain(sentence));
    }
}
