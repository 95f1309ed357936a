import java.io.IOException;
import java.lang.reflect.Constructor;
import java.lang.reflect.Field;
import java.lang.reflect.Method;
import java.lang.reflect.Modifier;
import java.nio.file.Files;
import java.nio.file.Path;
import java.util.Arrays;
import java.util.List;
import java.util.TreeSet;
import java.util.regex.MatchResult;
import java.util.regex.Pattern;

/** The public face of the document: its constants, its constructor and its methods, and no others. */
public final class FaceTest {

    private static final List<String> METHODS = List.of(
            "recut(int,int)", "setMargin(int)", "setColumns(int)", "adjust(char,char,int)",
            "type(char)", "clearText()", "readNames()", "remove(int)", "swap(int,int)",
            "engrave(int)", "engraveAll()", "undo()", "keep()", "restore()",
            "name(int,int)", "sign(int,int,int)", "signAt(int,int)", "size()", "sizeBy(int,int)",
            "sizeWithout(int)", "leastWidth(int)", "longest()", "adjustment(char,char)",
            "pair(int,int)", "count(int)");

    private static final List<String> CONSTANTS =
            List.of("UNKNOWN", "BAD_VALUE", "FULL", "NOT_POSSIBLE", "NONE");

    private static final Pattern HEAD = Pattern.compile("(?m)^    public [^\n]*\\w\\([^\n]*\\) \\{$");
    private static final Pattern SECTION = Pattern.compile("(?m)^    // (---- [^\n]*)$");
    private static final Pattern AHEAD = Pattern.compile("Ahead of the calls (.*) the interface says: (.*)\\.");

    public static void main(String[] args) throws IllegalAccessException, IOException {
        Check.due("class is public and final", NamePlate.class.getModifiers(), Modifier.PUBLIC | Modifier.FINAL);
        constants();
        constructor();
        methods();
        classesInside();
        if (Document.isThere()) {
            String program = Files.readString(Path.of("src/main/java/NamePlate.java"));
            inTheDocumentsWords(program);
            inTheDocumentsSections(program);
        }
        Check.end();
    }

    private static void constants() throws IllegalAccessException {
        TreeSet<String> seen = new TreeSet<>();
        for (Field field : NamePlate.class.getDeclaredFields()) {
            if (!Modifier.isPrivate(field.getModifiers())) {
                seen.add(field.getName());
                Check.due(field.getName() + " modifiers", field.getModifiers(),
                        Modifier.PUBLIC | Modifier.STATIC | Modifier.FINAL);
                Check.due(field.getName(), field.getInt(null), -1001 - CONSTANTS.indexOf(field.getName()));
            }
        }
        Check.holds("constants " + seen, seen.equals(new TreeSet<>(CONSTANTS)));
    }

    private static void constructor() {
        Constructor<?>[] constructors = NamePlate.class.getDeclaredConstructors();
        Check.due("constructors", constructors.length, 1);
        Check.due("constructor is public", constructors[0].getModifiers(), Modifier.PUBLIC);
        Check.due("constructor's parameters", constructors[0].getParameterCount(), 0);
    }

    private static void methods() {
        TreeSet<String> seen = new TreeSet<>();
        for (Method method : NamePlate.class.getDeclaredMethods()) {
            String name = method.getName();
            if (Modifier.isPrivate(method.getModifiers()) || method.isSynthetic()) {
                Check.holds("private " + name + " has a name of its own", isOwnName(name));
            } else {
                seen.add(signature(method));
                Check.due(name + " is public alone", method.getModifiers(), Modifier.PUBLIC);
                Check.holds(name + " answers an int", method.getReturnType() == int.class);
            }
        }
        Check.holds("methods " + seen, seen.equals(new TreeSet<>(METHODS)));
    }

    private static void classesInside() {
        for (Class<?> inside : NamePlate.class.getDeclaredClasses()) {
            int modifiers = inside.getModifiers();
            Check.holds(inside + " is static", Modifier.isStatic(modifiers));
            Check.holds(inside + " is hidden", !Modifier.isPublic(modifiers) && !Modifier.isProtected(modifiers));
            for (Method method : inside.getDeclaredMethods()) {
                Check.holds(inside + " " + method.getName() + " has a name of its own", isOwnName(method.getName()));
            }
        }
    }

    /** The names of the parameters, too, and the order of all. */
    private static void inTheDocumentsWords(String program) throws IOException {
        List<String> is = Pattern.compile("(?m)^    public [^\n]*").matcher(program).results()
                .map(line -> line.group().replace(" {", ";")).toList();
        List<String> due = Pattern.compile("(?m)^    public [^\n]*").matcher(Document.under("The public face")).results()
                .map(MatchResult::group).toList();
        Check.due("lines of the face", is.size(), due.size());
        for (int line = 0; line < Math.min(is.size(), due.size()); line++) {
            Check.holds(is.get(line) + " is due as " + due.get(line), is.get(line).equals(due.get(line)));
        }
    }

    private static void inTheDocumentsSections(String program) throws IOException {
        List<MatchResult> sections = AHEAD.matcher(Document.under("ERRORS")).results().toList();
        Check.due("sections", sections.size(), 5);
        for (MatchResult section : sections) {
            List<String> is = HEAD.matcher(sectionOf(program, section.group(2))).results()
                    .map(head -> head.group().replaceFirst(".* (\\w+)\\(.*", "`$1`")).toList();
            Check.holds(section.group(2) + " stands ahead of " + is, String.join(", ", is).equals(section.group(1)));
        }
    }

    /** What stands between this line of the program's face and the next one of its kind. */
    private static String sectionOf(String program, String heading) {
        String[] parts = SECTION.split(program);
        List<String> headings = SECTION.matcher(program).results().map(line -> line.group(1)).toList();
        return headings.contains(heading) ? parts[headings.indexOf(heading) + 1] : "";
    }

    private static boolean isOwnName(String name) {
        return METHODS.stream().noneMatch(method -> method.startsWith(name + "("));
    }

    private static String signature(Method method) {
        StringBuilder text = new StringBuilder(method.getName()).append('(');
        for (Class<?> type : Arrays.asList(method.getParameterTypes())) {
            text.append(text.charAt(text.length() - 1) == '(' ? "" : ",").append(type.getName());
        }
        return text.append(')').toString();
    }
}
