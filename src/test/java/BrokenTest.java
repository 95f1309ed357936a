import java.io.IOException;
import java.io.OutputStream;
import java.io.PrintStream;
import java.lang.reflect.Method;
import java.nio.file.Files;
import java.nio.file.Path;
import java.util.ArrayList;
import java.util.List;
import java.util.Map;
import java.util.TreeMap;
import java.util.TreeSet;
import java.util.regex.Matcher;
import java.util.regex.Pattern;

/**
 * Breaks the program in each of the ways of src/test/breaks.txt: the test that the line names has to fail then.
 * A test of a sentence that no line names is a fault, too, and so is a promise without a test.
 */
public final class BrokenTest {

    private static final Path PROGRAM = Path.of("src/main/java/NamePlate.java");
    private static final Path BREAKS = Path.of("src/test/breaks.txt");
    private static final Pattern LINE = Pattern.compile("(\\w+) @ ([\\w.-]+): (.+?) => (.*)");
    private static final int PROMISES = 26;

    /** The class in which each test of a sentence stands. */
    private static final Map<String, String> CLASSES = new TreeMap<>();

    private record Break(String line, String test, String scope, String from, String to) {
    }

    public static void main(String[] args) throws IOException, ReflectiveOperationException {
        String program = Files.readString(PROGRAM);
        gatherTests();
        List<Break> breaks = breaks();
        eachTestIsNamed(breaks);
        PrintStream out = System.out;
        // What a test prints when it fails is not told: here it is due.
        System.setOut(new PrintStream(OutputStream.nullOutputStream()));
        List<String> unbroken = heldBy(program, CLASSES.keySet());
        List<String> answers = breaks.parallelStream().map(way -> answerTo(program, way)).toList();
        System.setOut(out);
        Check.holds("each test holds on the program as it is, but " + unbroken, unbroken.isEmpty());
        for (int at = 0; at < answers.size(); at++) {
            Check.holds(answers.get(at) + ": " + breaks.get(at).line(), answers.get(at).equals("fails"));
        }
        Check.end();
    }

    // ---- tests and breaks

    private static void gatherTests() throws IOException, ClassNotFoundException {
        TreeSet<Integer> promises = new TreeSet<>();
        for (String tests : Bounds.classesOfTests()) {
            for (Method test : Bounds.testsOf(Class.forName(tests))) {
                Check.holds("one test alone is " + test.getName(), CLASSES.put(test.getName(), tests) == null);
                promises.add(test.getAnnotation(Bound.class).promise());
            }
        }
        for (int promise = 1; promise <= PROMISES; promise++) {
            Check.holds("promise " + promise + " has a test", promises.contains(promise));
        }
    }

    private static List<Break> breaks() throws IOException {
        List<Break> all = new ArrayList<>();
        for (String line : Files.readAllLines(BREAKS)) {
            Matcher parts = LINE.matcher(line);
            if (parts.matches()) {
                all.add(new Break(line, parts.group(1), parts.group(2), ends(parts.group(3)), ends(parts.group(4))));
            } else {
                Check.holds("this line is a way to break it: " + line, line.isEmpty() || line.startsWith("#"));
            }
        }
        return all;
    }

    private static String ends(String text) {
        return text.replace("\\n", "\n");
    }

    private static void eachTestIsNamed(List<Break> breaks) {
        TreeSet<String> named = new TreeSet<>();
        for (Break way : breaks) {
            named.add(way.test());
            Check.holds("there is a test " + way.test(), CLASSES.containsKey(way.test()));
        }
        for (String test : CLASSES.keySet()) {
            Check.holds("there is a way to break " + test, named.contains(test));
        }
    }

    // ---- answers

    /** The tests that do not hold on the program as it is, by the way on which the broken ones are run. */
    private static List<String> heldBy(String program, Iterable<String> tests) throws ReflectiveOperationException {
        OtherProgram same = new OtherProgram(program);
        List<String> failing = new ArrayList<>();
        for (String test : tests) {
            if (!same.compiles() || !same.holds(CLASSES.get(test), test)) {
                failing.add(test);
            }
        }
        return failing;
    }

    /** "fails" if the test fails by it, as is due. */
    private static String answerTo(String program, Break way) {
        String text = broken(program, way);
        if (text == null) {
            return "its text does not stand there once";
        }
        OtherProgram other = new OtherProgram(text);
        if (!other.compiles()) {
            return "does not compile";
        }
        try {
            return other.holds(CLASSES.get(way.test()), way.test()) ? "HOLDS" : "fails";
        } catch (ReflectiveOperationException failure) {
            return "cannot be run, by " + failure;
        }
    }

    // ---- the broken text

    /** Null if the text that is to be replaced does not stand in the scope, or more than once. */
    private static String broken(String program, Break way) {
        int begin = 0;
        int end = program.length();
        if (!way.scope().equals("-")) {
            for (String part : way.scope().split("\\.")) {
                Matcher head = headOf(part).matcher(program).region(begin, end);
                if (!head.find()) {
                    return null;
                }
                begin = head.start();
                end = program.indexOf("\n" + head.group(1) + "}\n", begin);
            }
        }
        String scope = program.substring(begin, end);
        int at = scope.indexOf(way.from());
        if (at < 0 || at != scope.lastIndexOf(way.from())) {
            return null;
        }
        int behind = begin + at + way.from().length();
        return program.substring(0, begin + at) + way.to() + program.substring(behind);
    }

    /** The line with which a class or a method begins; its indentation is the group 1. */
    private static Pattern headOf(String name) {
        return Pattern.compile("(?m)^( +)[\\w ]*\\b(class " + name + "|" + name + "\\([^\n;]*\\)) \\{$");
    }
}
