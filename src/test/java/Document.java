import java.io.IOException;
import java.nio.file.Files;
import java.nio.file.Path;
import java.util.ArrayList;
import java.util.List;

/** ../shared/DOC.md, looked up by its headings. */
final class Document {

    private static final Path PLACE = Path.of("../shared/DOC.md");

    private Document() {
    }

    /** A checkout without the document can be tested all the same, but for the words that the tests quote. */
    static boolean isThere() {
        return Files.exists(PLACE);
    }

    /** All headings, in order: "Promise 7" without the words behind it, "What it is", those in capitals of "Terms". */
    static List<String> headings() throws IOException {
        List<String> all = new ArrayList<>();
        for (String line : Files.readAllLines(PLACE)) {
            if (isHeading(line)) {
                all.add(nameOf(line));
            }
        }
        return all;
    }

    /** What stands under the heading, up to the next one. */
    static String under(String heading) throws IOException {
        StringBuilder part = new StringBuilder();
        boolean inside = false;
        for (String line : Files.readAllLines(PLACE)) {
            if (isHeading(line)) {
                inside = nameOf(line).equals(heading);
            } else if (inside) {
                part.append(line).append('\n');
            }
        }
        return part.toString();
    }

    private static boolean isHeading(String line) {
        return line.startsWith("#") || line.matches("[A-Z]{5,}");
    }

    private static String nameOf(String line) {
        return line.replaceFirst("^#+ ", "").replaceFirst("^(Promise \\d+):.*", "$1");
    }
}
