import java.io.IOException;
import java.lang.reflect.InvocationTargetException;
import java.lang.reflect.Method;
import java.nio.file.Files;
import java.nio.file.Path;
import java.util.ArrayList;
import java.util.Comparator;
import java.util.List;
import java.util.function.Supplier;
import java.util.function.ToIntFunction;
import java.util.stream.Stream;

/** What the tests of sentences share; each of them holds to a sentence of the document, which its @Bound names. */
abstract class Bounds {

    static final int UNKNOWN = Plates.UNKNOWN;
    static final int BAD_VALUE = Plates.BAD_VALUE;
    static final int FULL = Plates.FULL;
    static final int NOT_POSSIBLE = Plates.NOT_POSSIBLE;
    static final int NONE = Plates.NONE;
    static final int LEAST_INT = Integer.MIN_VALUE;
    static final int GREATEST_INT = Integer.MAX_VALUE;

    /** 16 signs, 155 units. */
    static final String SIXTEEN = Plates.SIXTEEN;
    static final String FIFTEEN = SIXTEEN.substring(0, 15);
    /** Five signs, 35 units: widths 3 2 6 4 9, spaces 4 2 2 3. */
    static final String MIXED = "A.C-E";

    static final String CHANGES_NOTHING = "A call that returns an error or NONE changes nothing.";

    // ---- running

    static void runAll(Class<?> tests) {
        List<Method> all = testsOf(tests);
        for (Method test : all) {
            holds(test);
        }
        System.out.println(all.size() + " tests of sentences" + (Document.isThere() ? "" : ", NO DOC.md TO QUOTE FROM"));
        Check.end();
    }

    /** All classes that hold tests of sentences. */
    static List<String> classesOfTests() throws IOException {
        try (Stream<Path> files = Files.list(Path.of("src/test/java"))) {
            return files.map(file -> file.getFileName().toString().replace(".java", ""))
                    .filter(name -> name.matches("(BoundsOf\\w+|OtherSentences)Test")).sorted().toList();
        }
    }

    static List<Method> testsOf(Class<?> tests) {
        List<Method> all = new ArrayList<>();
        for (Method test : tests.getDeclaredMethods()) {
            if (test.isAnnotationPresent(Bound.class)) {
                all.add(test);
            }
        }
        all.sort(Comparator.comparing(Method::getName));
        return all;
    }

    /** Runs one test; tells which promise and sentence it is about if it does not hold. */
    static boolean holds(Method test) {
        Bound bound = test.getAnnotation(Bound.class);
        int before = Check.wrong();
        try {
            dueQuote(bound);
            test.setAccessible(true);
            test.invoke(null);
        } catch (InvocationTargetException thrown) {
            Check.holds("no call throws, but " + thrown.getCause(), false);
        } catch (IOException | IllegalAccessException failure) {
            Check.holds(test.getName() + " can be run, but " + failure, false);
        }
        boolean held = Check.wrong() == before;
        if (!held) {
            String says = String.join("\", \"", bound.says());
            System.out.println("NOT HELD: promise " + bound.promise() + ", \"" + says + "\": " + test.getName());
        }
        return held;
    }

    /** The heading of the document under which the words of this test stand. */
    static String headingOf(Bound bound) {
        return bound.in().isEmpty() ? "Promise " + bound.promise() : bound.in();
    }

    private static void dueQuote(Bound bound) throws IOException {
        if (Document.isThere()) {
            String part = Document.under(headingOf(bound));
            for (String words : bound.says()) {
                Check.holds("words under " + headingOf(bound) + " of the document", part.contains(words));
            }
        }
    }

    // ---- answers

    static void due(String call, long got, long want) {
        Check.due(call, got, want);
    }

    /** What is outside a range, next to its ends and as far as can be, is refused. */
    static void dueRefused(String call, int least, int most, int refusal, ToIntFunction<Integer> asks) {
        for (int outside : new int[] {least - 1, most + 1, LEAST_INT, GREATEST_INT}) {
            due(call + " with " + outside, asks.applyAsInt(outside), refusal);
        }
    }

    /** The call answers this, and a plate on which it was made is the same ever after as one on which it was not. */
    static void dueUnchanged(String call, Supplier<NamePlate> start, ToIntFunction<NamePlate> asks, int answer) {
        NamePlate asked = start.get();
        NamePlate other = start.get();
        due(call, asks.applyAsInt(asked), answer);
        dueAlike("at once", call, asked, other);
        // Before any undo(): behind it, the call itself is made on both if it is undo().
        due("restore behind " + call, asked.restore(), other.restore());
        dueAlike("restored", call, asked, other);
        for (int back = 1; back <= 6; back++) {
            due("undo " + back + " behind " + call, asked.undo(), other.undo());
            Check.holds("counts after undo " + back + " behind " + call, counts(asked).equals(counts(other)));
        }
        due("readNames behind " + call, asked.readNames(), other.readNames());
        dueAlike("read", call, asked, other);
    }

    static void dueAlike(String when, String call, NamePlate asked, NamePlate other) {
        String is = tell(asked);
        String due = tell(other);
        Check.holds(when + ", behind " + call + ": " + is + ", due " + due, is.equals(due));
    }

    private static String tell(NamePlate plate) {
        StringBuilder told = new StringBuilder(counts(plate)).append("size ").append(plate.size());
        int names = plate.count(4);
        for (int seat = 0; seat < names; seat++) {
            int signs = plate.name(seat, 0);
            told.append(", ");
            for (int index = 0; index < signs; index++) {
                told.append((char) plate.sign(seat, index, 0));
            }
            told.append(plate.name(seat, 2) == 1 ? " engraved at " : " at ").append(plate.name(seat, 5));
        }
        int pairs = plate.count(9);
        for (int place = 0; place < pairs; place++) {
            told.append(", ").append((char) plate.pair(place, 0)).append((char) plate.pair(place, 1));
            told.append(plate.pair(place, 2));
        }
        return told.toString();
    }

    private static String counts(NamePlate plate) {
        StringBuilder told = new StringBuilder();
        for (int what = 0; what < 12; what++) {
            told.append(plate.count(what)).append(' ');
        }
        return told.toString();
    }

    // ---- plates

    static int read(NamePlate plate, String text) {
        return Plates.read(plate, text);
    }

    /** What readNames() answers to a text on a new plate. */
    static int reading(String text) {
        return read(new NamePlate(), text);
    }

    static NamePlate with(String text) {
        return Plates.with(text);
    }

    static NamePlate with(String text, int width, int height) {
        NamePlate plate = with(text);
        due("recut", plate.recut(width, height), 0);
        return plate;
    }

    /** The letters A, B, .. as names, a seat each. */
    static NamePlate withLetters(int names) {
        return Plates.withLetters(names);
    }

    /** The name A, engraved at the size 40 on two rows and a column of 1960 points. */
    static NamePlate withEngraved() {
        NamePlate plate = with("A");
        due("engrave A", plate.engrave(0), 940);
        return plate;
    }

    /** A name on a plate that is all margin: the size is 0. */
    static NamePlate withoutSize() {
        NamePlate plate = with(MIXED, 300, 100);
        due("all margin", plate.setMargin(100), 20);
        due("size of a plate that is all margin", plate.size(), 0);
        return plate;
    }

    /** Sixteen pairs: AA, BA, .. PA, adjusted by 1. */
    static NamePlate withSixteenPairs(String text) {
        NamePlate plate = with(text);
        for (int place = 0; place < 16; place++) {
            due("adjust pair " + place, plate.adjust((char) ('A' + place), 'A', 1), 0);
        }
        return plate;
    }

    /** Three names, a pair, two columns, three states, a snapshot of the first one, and the text E;F. */
    static NamePlate free() {
        NamePlate plate = with("AB;C;D");
        plate.keep();
        plate.adjust('A', 'B', 2);
        plate.setColumns(2);
        Plates.text(plate, "E;F");
        return plate;
    }

    /** The same, and AB is engraved. */
    static NamePlate rich() {
        NamePlate plate = free();
        due("engrave AB", plate.engrave(0) >= 0 ? 1 : 0, 1);
        return plate;
    }
}
