import java.io.IOException;
import java.nio.file.Files;
import java.nio.file.Path;

/** ../shared/DOC.md, looked up by its headings. */
final class Document {

    private static final Path PLACE = Path.of("../shared/DOC.md");

    private Document() {
    }

    /** A checkout without the document can be tested all the same, but for the words that the tests quote. */
    static boolean isThere() {
        return Files.exists(PLACE);
    }

    /** Whether these words stand under the heading: "Promise 7", "What it is", or one in capitals of "Terms". */
    static boolean says(String heading, String words) throws IOException {
        StringBuilder part = new StringBuilder();
        boolean inside = false;
        for (String line : Files.readAllLines(PLACE)) {
            if (isHeading(line)) {
                inside = line.equals(heading) || line.equals("## " + heading) || line.startsWith("## " + heading + ":");
            } else if (inside) {
                part.append(line).append('\n');
            }
        }
        return part.indexOf(words) >= 0;
    }

    private static boolean isHeading(String line) {
        return line.startsWith("## ") || line.matches("[A-Z]{5,}");
    }
}
