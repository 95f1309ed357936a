import java.io.IOException;
import java.lang.reflect.Method;
import java.lang.reflect.Modifier;
import java.nio.file.Files;
import java.nio.file.Path;
import java.util.ArrayList;
import java.util.Comparator;
import java.util.List;
import java.util.TreeSet;
import java.util.regex.MatchResult;
import java.util.regex.Pattern;
import java.util.stream.Stream;

/** Follows README.md word for word, in a directory of its own. */
public final class ReadmeTest {

    private static final Path README = Path.of("README.md");
    private static final Path TESTS = Path.of("src/test/java");
    /** What the program prints is told behind "//", before the first sign that is not of a number. */
    private static final Pattern PRINTED = Pattern.compile("println\\(.*\\); +// (-?\\d+)\\b");

    public static void main(String[] args) throws IOException, InterruptedException {
        String readme = Files.readString(README);
        String program = blocks(readme, "java").get(0);
        List<String> commands = blocks(readme, "sh");
        Check.due("blocks of commands", commands.size(), 3);
        Path place = Files.createTempDirectory("readme");
        try {
            copySources(place);
            Files.writeString(place.resolve("Seats.java"), program);
            follow(place, commands.get(0), PRINTED.matcher(program).results().map(line -> line.group(1)).toList());
            follow(place, commands.get(2), null);
        } finally {
            remove(place);
        }
        // Not followed: it runs this test, too.
        Check.holds("the tests are run by .ci/run", commands.get(1).equals(".ci/run\n"));
        Check.holds(".ci/run can be called", Files.isExecutable(Path.of(".ci/run")));
        dueRows(readme, "test", testsThatAre());
        dueRows(readme, "calls", callsThatAre());
        constants(readme);
        Check.end();
    }

    // ---- what is to be followed

    /** What stands between the lines ```kind and ```. */
    private static List<String> blocks(String readme, String kind) {
        return Pattern.compile("(?ms)^```" + kind + "\\n(.*?)^```$").matcher(readme).results()
                .map(block -> block.group(1)).toList();
    }

    private static void follow(Path place, String commands, List<String> due) throws IOException, InterruptedException {
        Process shell = new ProcessBuilder("sh", "-e", "-c", commands).directory(place.toFile())
                .redirectErrorStream(true).start();
        String printed = new String(shell.getInputStream().readAllBytes());
        Check.due("exit code of " + commands + printed, shell.waitFor(), 0);
        if (due != null) {
            Check.holds("lines are due", !due.isEmpty());
            Check.holds(commands + "prints " + printed + "due are " + due, printed.lines().toList().equals(due));
        }
    }

    private static void copySources(Path place) throws IOException {
        Files.createDirectories(place.resolve(TESTS));
        Path program = Path.of("src/main/java/NamePlate.java");
        Files.createDirectories(place.resolve(program).getParent());
        Files.copy(program, place.resolve(program));
        for (Path test : files(TESTS)) {
            Files.copy(test, place.resolve(test));
        }
    }

    private static List<Path> files(Path directory) throws IOException {
        try (Stream<Path> files = Files.list(directory)) {
            return files.toList();
        }
    }

    private static void remove(Path place) throws IOException {
        List<Path> all;
        try (Stream<Path> files = Files.walk(place)) {
            all = files.sorted(Comparator.reverseOrder()).toList();
        }
        for (Path path : all) {
            Files.delete(path);
        }
    }

    // ---- tables

    /** The names in the first column of the table with this head are these, each once. */
    private static void dueRows(String readme, String head, TreeSet<String> due) {
        String table = readme.substring(readme.indexOf("| " + head + " |"));
        List<String> names = new ArrayList<>();
        for (String row : table.substring(0, table.indexOf("\n\n")).split("\n")) {
            Pattern.compile("`(\\w+)`").matcher(row.split("\\|")[1]).results().map(name -> name.group(1)).forEach(names::add);
        }
        Check.due("names under " + head, names.size(), due.size());
        Check.holds("names under " + head + ": " + names + ", due " + due, new TreeSet<>(names).equals(due));
    }

    private static TreeSet<String> testsThatAre() throws IOException {
        TreeSet<String> all = new TreeSet<>();
        for (Path test : files(TESTS)) {
            String name = test.getFileName().toString();
            if (name.endsWith("Test.java")) {
                all.add(name.replace(".java", ""));
            }
        }
        return all;
    }

    private static TreeSet<String> callsThatAre() {
        TreeSet<String> all = new TreeSet<>();
        for (Method method : NamePlate.class.getDeclaredMethods()) {
            if (Modifier.isPublic(method.getModifiers())) {
                all.add(method.getName());
            }
        }
        return all;
    }

    private static void constants(String readme) {
        int[] numbers = {NamePlate.UNKNOWN, NamePlate.BAD_VALUE, NamePlate.FULL, NamePlate.NOT_POSSIBLE, NamePlate.NONE};
        String[] names = {"UNKNOWN", "BAD_VALUE", "FULL", "NOT_POSSIBLE", "NONE"};
        List<String> rows = Pattern.compile("(?m)^\\| -\\d+ \\| `\\w+` \\|").matcher(readme).results()
                .map(MatchResult::group).toList();
        Check.due("constants", rows.size(), names.length);
        for (int at = 0; at < Math.min(rows.size(), names.length); at++) {
            String due = "| " + numbers[at] + " | `" + names[at] + "` |";
            Check.holds(rows.get(at) + " is due as " + due, rows.get(at).equals(due));
        }
    }
}
