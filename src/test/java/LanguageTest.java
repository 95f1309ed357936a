import java.io.IOException;
import java.nio.file.Files;
import java.nio.file.Path;
import java.util.regex.Matcher;
import java.util.regex.Pattern;

/** The rules of LANGUAGE.md that a look at the program's text can tell: words, signs and lengths. */
public final class LanguageTest {

    private static final String[] FORBIDDEN = {"package", "import", "throw", "throws", "try", "catch", "finally",
        "synchronized", "assert", "equals", "hashCode", "toString", "Object", "double", "float", "Exact",
        "volatile", "transient", "native", "protected", "Thread", "System.(?!arraycopy)"};

    public static void main(String[] args) throws IOException {
        String program = Files.readString(Path.of("src/main/java/NamePlate.java"));
        String code = program.replaceAll("(?s)/\\*.*?\\*/", "").replaceAll("//[^\n]*", "");
        Check.holds("signs are 1 to 127", program.chars().allMatch(sign -> sign >= 1 && sign <= 127));
        for (String word : FORBIDDEN) {
            Check.holds("no " + word, !Pattern.compile("\\b" + word + (word.endsWith(")") ? "" : "\\b")).matcher(code).find());
        }
        Check.holds("no lambda", !code.contains("->"));
        Check.holds("no method reference", !code.contains("::"));
        Check.holds("one public class", count(code, "\\bpublic final class\\b") == 1);
        Check.holds("at most twelve classes", count(code, "\\b(class|enum|record|interface) \\w+") <= 12);
        methods(code);
        Check.end();
    }

    private static int count(String code, String pattern) {
        return (int) Pattern.compile(pattern).matcher(code).results().count();
    }

    /** A method begins with its head on a line of its own and ends with a bracket at the same depth. */
    private static void methods(String code) {
        Matcher heads = Pattern.compile("(?m)^( +)\\w[\\w \\[\\]]* (\\w+)\\(([^)]*)\\) \\{$").matcher(code);
        int found = 0;
        while (heads.find()) {
            found++;
            int end = code.indexOf("\n" + heads.group(1) + "}\n", heads.end());
            int lines = code.substring(heads.start(), end).split("\n").length;
            Check.holds(heads.group(2) + " has " + lines + " lines", lines <= 60);
            Check.holds(heads.group(2) + " has few parameters", heads.group(3).split(",").length <= 7);
        }
        Check.holds("methods are found", found >= 25);
    }
}
