import java.io.IOException;
import java.lang.reflect.Method;
import java.util.ArrayList;
import java.util.List;
import java.util.regex.Matcher;
import java.util.regex.Pattern;

/**
 * Goes through ../shared/DOC.md from its first line to its last: each word of it is quoted by the test of a
 * sentence, or stands among those that a test cannot hold to.
 */
public final class DocumentTest {

    /** What describes the whole, what is left free, and what FaceTest holds to: heading, and words under it. */
    private static final String[][] NOT_QUOTED = {
        {"What it is", "(?s)A plate on which names for seats are engraved: .* undo and a snapshot\\."},
        {"What it is", "; what later calls answer is free\\."},
        {"The public face", "(?s)```java.*```"},
        {"ERRORS", "Ahead of the calls .* the interface says: ---- .*\\."},
        {"Promise \\d+", "`(int )?\\w+\\(.*\\)`:"},
        {"Not promised", "(?s).*"},
    };

    public static void main(String[] args) throws IOException, ClassNotFoundException {
        if (!Document.isThere()) {
            System.out.println("NO DOC.md TO GO THROUGH");
            return;
        }
        List<Bound> quotes = quotes();
        for (String heading : Document.headings()) {
            String left = left(heading, quotes);
            Check.holds("under " + heading + " no test quotes:" + left, left.isBlank());
        }
        Check.end();
    }

    private static List<Bound> quotes() throws IOException, ClassNotFoundException {
        List<Bound> all = new ArrayList<>();
        for (String tests : Bounds.classesOfTests()) {
            for (Method test : Bounds.testsOf(Class.forName(tests))) {
                all.add(test.getAnnotation(Bound.class));
            }
        }
        return all;
    }

    /** The words under the heading that are neither quoted nor among those that are not to be. */
    private static String left(String heading, List<Bound> quotes) throws IOException {
        String part = Document.under(heading);
        boolean[] quoted = new boolean[part.length()];
        for (String[] free : NOT_QUOTED) {
            if (heading.matches(free[0])) {
                mark(quoted, Pattern.compile(free[1]).matcher(part));
            }
        }
        for (Bound bound : quotes) {
            if (Bounds.headingOf(bound).equals(heading)) {
                for (String words : bound.says()) {
                    mark(quoted, Pattern.compile(Pattern.quote(words)).matcher(part));
                }
            }
        }
        StringBuilder left = new StringBuilder();
        for (int at = 0; at < quoted.length; at++) {
            left.append(quoted[at] ? ' ' : part.charAt(at));
        }
        return left.toString().replaceAll("[\\s.,:;-]+", " ");
    }

    private static void mark(boolean[] quoted, Matcher found) {
        while (found.find()) {
            for (int at = found.start(); at < found.end(); at++) {
                quoted[at] = true;
            }
        }
    }
}
