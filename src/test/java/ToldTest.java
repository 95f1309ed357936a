/** Promises 16 to 26: what is told. The numbers due are worked out by hand from the document. */
public final class ToldTest {

    /** "A.C-E": widths 3 2 6 4 9, spaces 4 2 2 3, inks 1 1 2 2 3, 35 units. */
    private static final String MIXED = "A.C-E";

    public static void main(String[] args) {
        lettersOfTheAlphabet();
        nameNumbers();
        nameRefuses();
        nameOfSizeZero();
        fitsToThePoint();
        tooNarrowForAnySize();
        rowsAndColumns();
        centredWithinTheColumn();
        widerThanTheColumn();
        signNumbers();
        signRefuses();
        findsSigns();
        findsSignsAtSizeOne();
        findsTheLowestSeat();
        sizes();
        sizeByTells();
        sizeWithoutTells();
        leastWidthTells();
        longestTells();
        adjustmentTells();
        pairTells();
        countTells();
        Check.end();
    }

    private static void lettersOfTheAlphabet() {
        int[] widths = {3, 8, 6, 4, 9, 7, 5};
        int[] inks = {1, 4, 2, 5, 3};
        for (int k = 0; k < 26; k++) {
            char letter = (char) ('A' + k);
            NamePlate plate = Plates.with("" + letter + "A");
            Check.due("code of " + letter, plate.sign(0, 0, 0), letter);
            Check.due("width of " + letter, plate.sign(0, 0, 2), widths[k % 7]);
            Check.due("space behind " + letter, plate.sign(0, 0, 3), 6 - k % 3);
            Check.due("measure behind " + letter, plate.sign(0, 0, 4), 6);
            Check.due("ink of " + letter + "A", plate.name(0, 10), inks[k % 5] + 1);
            Check.due("units of " + letter + "A", plate.name(0, 1), widths[k % 7] + 6 - k % 3 + 3);
        }
    }

    private static void nameNumbers() {
        NamePlate plate = Plates.with(MIXED + ";A");
        int[] due = {5, 35, 0, 0, 0, 240, 20, 1, 1400, 300, 9};
        for (int what = 0; what < due.length; what++) {
            Check.due("name(0, " + what + ")", plate.name(0, what), due[what]);
        }
        int[] dueOfA = {1, 3, 0, 1, 0, 940, 500, 1, 120, 940, 1};
        for (int what = 0; what < dueOfA.length; what++) {
            Check.due("name(1, " + what + ")", plate.name(1, what), dueOfA[what]);
        }
        Check.due("engraved where it would begin", plate.engrave(0), 240);
        Check.due("engraved", plate.name(0, 2), 1);
        Check.due("it begins there", plate.name(0, 5), 240);
    }

    private static void nameRefuses() {
        NamePlate plate = Plates.with(MIXED);
        int[] out = {-1, 11, Integer.MIN_VALUE, Integer.MAX_VALUE};
        for (int number : out) {
            Check.due("what " + number, plate.name(0, number), Plates.BAD_VALUE);
            Check.due("seat " + number, plate.name(number, 0), Plates.UNKNOWN);
            Check.due("both " + number, plate.name(number, number), Plates.UNKNOWN);
        }
        Check.due("the seat behind", plate.name(1, 5), Plates.UNKNOWN);
    }

    private static void nameOfSizeZero() {
        NamePlate plate = Plates.with(MIXED);
        plate.setMargin(100);
        plate.recut(300, 100);
        int[] due = {5, 35, 0, 0, 0, Plates.NONE, Plates.NONE, 0, Plates.NONE, Plates.NONE, 9};
        for (int what = 0; what < due.length; what++) {
            Check.due("name(0, " + what + ") at size 0", plate.name(0, what), due[what]);
        }
        Check.due("what 11 at size 0", plate.name(0, 11), Plates.BAD_VALUE);
        Check.due("what -1 at size 0", plate.name(0, -1), Plates.BAD_VALUE);
        Check.due("sign's place at size 0", plate.sign(0, 4, 5), Plates.NONE);
        Check.due("sign's measure at size 0", plate.sign(0, 0, 4), 6);
        Check.due("signAt at size 0", plate.signAt(100, 100), Plates.NONE);
        Check.due("signAt below 0 at size 0", plate.signAt(-1, 100), Plates.BAD_VALUE);
    }

    private static void fitsToThePoint() {
        NamePlate plate = Plates.with(MIXED);
        plate.recut(40 + 35 * 8, 40 + 12 * 8);
        Check.due("size as wide and as high as the room", plate.size(), 8);
        Check.due("it fits", plate.name(0, 7), 1);
        Check.due("it begins with the column", plate.engrave(0), 20);
        NamePlate rows = Plates.with("A");
        rows.engrave(0);
        rows.readNames();
        Check.due("the second row on 960 points", rows.name(1, 7), 1);
        rows.recut(2000, 999);
        rows.remove(1);
        rows.engrave(0);
        rows.readNames();
        Check.due("size", rows.size(), 40);
        Check.due("the second row on 959 points", rows.name(1, 7), 0);
    }

    private static void tooNarrowForAnySize() {
        NamePlate plate = Plates.with(Plates.SIXTEEN);
        plate.setColumns(3);
        plate.recut(300, 1000);
        Check.due("155 units on 86 points", plate.size(), 0);
        Check.due("it does not fit", plate.name(0, 7), 0);
        Check.due("it has no place", plate.name(0, 5), Plates.NONE);
        Check.due("no sign has", plate.signAt(20, 20), Plates.NONE);
        Check.due("it is not engraved", plate.engrave(0), Plates.NOT_POSSIBLE);
        Check.due("nor are all", plate.engraveAll(), Plates.NONE);
    }

    private static void rowsAndColumns() {
        NamePlate plate = Plates.with("A;A;A;A;A");
        plate.setMargin(10);
        plate.setColumns(3);
        plate.recut(1000, 500);
        // Columns of 326 points at 10, 336 and 662; two rows on 480 points: size 20, and names of 60 points.
        Check.due("size", plate.size(), 20);
        int[] begins = {143, 469, 795, 143, 469};
        for (int seat = 0; seat < 5; seat++) {
            Check.due("row of " + seat, plate.name(seat, 3), seat / 3);
            Check.due("column of " + seat, plate.name(seat, 4), seat % 3);
            Check.due("begin of " + seat, plate.name(seat, 5), begins[seat]);
            Check.due("row's begin of " + seat, plate.name(seat, 6), 10 + 240 * (seat / 3));
            Check.due("middle of " + seat, plate.name(seat, 9), begins[seat]);
        }
        Check.due("rows that are taken", plate.count(6), 2);
    }

    private static void centredWithinTheColumn() {
        // "AD" has most ink at its end, "DA" at its beginning; both have 13 units, and 299 points at size 23.
        NamePlate plate = Plates.with("AD;DA");
        plate.setMargin(0);
        plate.recut(300, 3000);
        Check.due("size", plate.size(), 23);
        Check.due("not to the left of the column", plate.name(0, 5), 0);
        Check.due("not to the right of it", plate.name(1, 5), 1);
        Check.due("by the width, rounded down", plate.name(0, 9), 0);
        // At 800 points: (6 * 800 - 40 * 113) / 12 and (6 * 800 - 40 * 43) / 12, at size 40.
        plate.recut(800, 3000);
        Check.due("ink at the end", plate.name(0, 5), 23);
        Check.due("ink at the beginning", plate.name(1, 5), 256);
        Check.due("middle", plate.name(1, 9), 140);
        plate.recut(801, 3000);
        Check.due("ink rounded down", plate.name(0, 5), 23);
        Check.due("middle rounded down", plate.name(1, 9), 140);
        plate.recut(805, 3000);
        Check.due("ink at 25.8", plate.name(0, 5), 25);
        Check.due("middle at 142.5", plate.name(1, 9), 142);
    }

    private static void widerThanTheColumn() {
        NamePlate plate = Plates.with("A");
        plate.setColumns(2);
        plate.engrave(0);
        Plates.read(plate, Plates.SIXTEEN);
        Check.due("size", plate.size(), 40);
        Check.due("begins with the column", plate.name(1, 5), 1000);
        Check.due("begins with it by the width, too", plate.name(1, 9), 1000);
        Check.due("width", plate.name(1, 8), 155 * 40);
        Check.due("does not fit", plate.name(1, 7), 0);
        Check.due("its first sign", plate.sign(1, 0, 5), 1000);
        Check.due("its second sign", plate.sign(1, 1, 5), 1000 + 8 * 40);
        Plates.read(plate, "A;A;A");
        Check.due("second row fits", plate.name(3, 7), 1);
        Check.due("third row does not", plate.name(4, 7), 0);
        Check.due("third row's begin", plate.name(4, 6), 20 + 2 * 480);
    }

    private static void signNumbers() {
        NamePlate plate = Plates.with("B;" + MIXED);
        int[][] due = {
            {'A', 0, 3, 4, 6, 240},
            {'.', 7, 2, 2, 6, 240 + 280},
            {'C', 11, 6, 2, 6, 240 + 440},
            {'-', 19, 4, 3, 6, 240 + 760},
            {'E', 26, 9, Plates.NONE, Plates.NONE, 240 + 1040}};
        for (int index = 0; index < due.length; index++) {
            for (int what = 0; what < 6; what++) {
                Check.due("sign(1, " + index + ", " + what + ")", plate.sign(1, index, what), due[index][what]);
            }
        }
        plate.adjust('C', '-', -3);
        Check.due("at least 1", plate.sign(1, 2, 3), 1);
        Check.due("measure of 1", plate.sign(1, 2, 4), 5);
        Check.due("nearer", plate.sign(1, 3, 1), 18);
        plate.adjust('-', 'E', 3);
        Check.due("wider", plate.sign(1, 3, 3), 6);
        Check.due("measure then", plate.sign(1, 3, 4), 9);
        Check.due("units then", plate.name(1, 1), 37);
    }

    private static void signRefuses() {
        NamePlate plate = Plates.with(MIXED);
        int[] out = {-1, 6, Integer.MIN_VALUE, Integer.MAX_VALUE};
        for (int number : out) {
            Check.due("seat " + number, plate.sign(number, 0, 0), Plates.UNKNOWN);
            Check.due("index " + number, plate.sign(0, number, 0), Plates.UNKNOWN);
            Check.due("what " + number, plate.sign(0, 0, number), Plates.BAD_VALUE);
            Check.due("what of the last sign " + number, plate.sign(0, 4, number), Plates.BAD_VALUE);
            Check.due("index and what " + number, plate.sign(0, number, number), Plates.UNKNOWN);
        }
        Check.due("index behind the last one", plate.sign(0, 5, 0), Plates.UNKNOWN);
        Check.due("no seat", plate.sign(1, 0, 0), Plates.UNKNOWN);
    }

    private static void findsSigns() {
        NamePlate plate = Plates.with("B;" + MIXED);
        int top = 20 + 480;
        Check.due("first point", plate.signAt(240, top), 100);
        Check.due("before it", plate.signAt(239, top), Plates.NONE);
        Check.due("last point of A", plate.signAt(359, top), 100);
        Check.due("behind A", plate.signAt(360, top), Plates.NONE);
        Check.due("in the space", plate.signAt(519, top), Plates.NONE);
        Check.due("first point of the mark", plate.signAt(520, top), 101);
        Check.due("last point of E", plate.signAt(1639, top), 104);
        Check.due("behind E", plate.signAt(1640, top), Plates.NONE);
        Check.due("last point below", plate.signAt(1639, top + 479), 104);
        Check.due("below the rows", plate.signAt(1639, top + 480), Plates.NONE);
        Check.due("row above", plate.signAt(1000, top - 1), 0);
        Check.due("first point of the row above", plate.signAt(1000, 20), 0);
        Check.due("above the rows", plate.signAt(1000, 19), Plates.NONE);
        plate.engrave(1);
        Check.due("engraved", plate.signAt(1639, top + 479), 104);
        Check.due("not engraved", plate.signAt(1000, 20), 0);
        Check.due("origin", plate.signAt(0, 0), Plates.NONE);
        Check.due("far away", plate.signAt(Integer.MAX_VALUE, Integer.MAX_VALUE), Plates.NONE);
        Check.due("x below 0", plate.signAt(-1, 20), Plates.BAD_VALUE);
        Check.due("y below 0", plate.signAt(1000, -1), Plates.BAD_VALUE);
        Check.due("far below 0", plate.signAt(Integer.MIN_VALUE, Integer.MIN_VALUE), Plates.BAD_VALUE);
        Check.due("without names", new NamePlate().signAt(1000, 500), Plates.NONE);
    }

    private static void findsSignsAtSizeOne() {
        NamePlate plate = Plates.with(Plates.SIXTEEN);
        plate.recut(300, 100);
        Check.due("size", plate.size(), 1);
        int begin = plate.name(0, 5);
        Check.due("first point", plate.signAt(begin, 20), 0);
        Check.due("last point below", plate.signAt(begin + 154, 31), 15);
        Check.due("behind the name", plate.signAt(begin + 155, 31), Plates.NONE);
        Check.due("below the row", plate.signAt(begin, 32), Plates.NONE);
    }

    private static void findsTheLowestSeat() {
        // Columns of 300 points: "BBB" of 32 units gives size 9, and stands from 306 to 594.
        NamePlate plate = Plates.with("AAAA;BBB");
        plate.setMargin(0);
        plate.setColumns(2);
        plate.recut(600, 1000);
        Check.due("size", plate.size(), 9);
        Check.due("engrave BBB", plate.engrave(1), 306);
        Check.due("widen AAAA to 39 units", plate.adjust('A', 'A', 3), 0);
        Check.due("both are there", plate.signAt(330, 0), 3);
        Check.due("a space of the lower seat", plate.signAt(320, 0), 100);
        Check.due("behind the lower seat", plate.signAt(351, 0), 100);
    }

    private static void sizes() {
        NamePlate plate = Plates.with(MIXED);
        Check.due("at most 40", plate.size(), 40);
        plate.recut(40 + 35 * 7, 1000);
        Check.due("285 is no width", plate.count(0), 2000);
        plate.recut(40 + 35 * 8, 1000);
        Check.due("exactly as wide", plate.size(), 8);
        plate.recut(40 + 35 * 8 - 1, 1000);
        Check.due("one point less", plate.size(), 7);
        plate.recut(2000, 40 + 12 * 10);
        Check.due("exactly as high", plate.size(), 10);
        plate.recut(2000, 40 + 12 * 10 - 1);
        Check.due("one point lower", plate.size(), 9);
        plate.readNames();
        Check.due("two rows", plate.size(), 4);
        plate.setColumns(2);
        Check.due("two columns, one row", plate.size(), 9);
        plate.readNames();
        Check.due("the third name in a row more", plate.size(), 4);
    }

    private static void sizeByTells() {
        NamePlate plate = Plates.with(MIXED);
        int[][] refused = {{299, 1000}, {6001, 1000}, {2000, 99}, {2000, 3001}, {-1, -1},
            {Integer.MAX_VALUE, 1000}, {2000, Integer.MIN_VALUE}};
        for (int[] by : refused) {
            Check.due("sizeBy out of range", plate.sizeBy(by[0], by[1]), Plates.BAD_VALUE);
        }
        Check.due("least plate", plate.sizeBy(300, 100), 5);
        Check.due("greatest plate", plate.sizeBy(6000, 3000), 40);
        Check.due("as cut", plate.sizeBy(2000, 1000), 40);
        plate.engrave(0);
        Plates.read(plate, Plates.SIXTEEN);
        Check.due("as if nothing were engraved", plate.sizeBy(2000, 1000), 12);
        Check.due("the size itself stays", plate.size(), 40);
        Check.due("nothing is cut", plate.count(0), 2000);
        NamePlate margin = Plates.with("A");
        margin.setMargin(100);
        Check.due("no height", margin.sizeBy(300, 200), 0);
        Check.due("height below 0", margin.sizeBy(300, 100), 0);
        Check.due("height of one row", margin.sizeBy(300, 212), 1);
        margin.remove(0);
        Check.due("without names", margin.sizeBy(300, 100), 40);
    }

    private static void sizeWithoutTells() {
        NamePlate plate = Plates.with("A;" + Plates.SIXTEEN + ";" + MIXED);
        int[] unknown = {-1, 3, Integer.MIN_VALUE, Integer.MAX_VALUE};
        for (int seat : unknown) {
            Check.due("without " + seat, plate.sizeWithout(seat), Plates.UNKNOWN);
        }
        Check.due("without a short one", plate.sizeWithout(0), 12);
        Check.due("without the long one", plate.sizeWithout(1), 40);
        Check.due("without the last one", plate.sizeWithout(2), 12);
        plate.recut(6000, 100);
        Check.due("three rows on 60 points", plate.size(), 1);
        Check.due("two rows, from the first seat", plate.sizeWithout(0), 2);
        Check.due("two rows, from the last seat", plate.sizeWithout(2), 2);
        plate.engrave(0);
        Check.due("as if nothing were engraved", plate.sizeWithout(1), 2);
        Check.due("the name is there still", plate.count(4), 3);
        NamePlate one = Plates.with("A");
        one.recut(300, 100);
        Check.due("without the only one", one.sizeWithout(0), 40);
        one.setMargin(100);
        Check.due("without the only one on no height", one.sizeWithout(0), 40);
        one.readNames();
        Check.due("one left on no height", one.sizeWithout(0), 0);
    }

    private static void leastWidthTells() {
        NamePlate plate = Plates.with(MIXED + ";A");
        int[] out = {0, -1, 41, Integer.MIN_VALUE, Integer.MAX_VALUE};
        for (int size : out) {
            Check.due("size " + size, plate.leastWidth(size), Plates.BAD_VALUE);
            Check.due("without names, size " + size, new NamePlate().leastWidth(size), Plates.BAD_VALUE);
        }
        Check.due("without names", new NamePlate().leastWidth(1), Plates.NONE);
        Check.due("at least 300", plate.leastWidth(1), 300);
        Check.due("just below 300", plate.leastWidth(7), 300);
        Check.due("above 300", plate.leastWidth(8), 320);
        Check.due("size 40", plate.leastWidth(40), 1440);
        plate.setColumns(3);
        for (int size = 3; size <= 40; size++) {
            int width = plate.leastWidth(size);
            Check.due("three columns, size " + size, width, 40 + 105 * size);
            Check.due("it is enough", plate.sizeBy(width, 3000), size);
            Check.due("less is not", plate.sizeBy(width - 1, 3000), size - 1);
        }
        plate.setMargin(100);
        plate.recut(300, 100);
        Check.due("whatever the height", plate.leastWidth(40), 200 + 105 * 40);
        Plates.read(plate, Plates.SIXTEEN);
        Check.due("more than 6000", plate.leastWidth(40), 200 + 3 * 155 * 40);
    }

    private static void longestTells() {
        NamePlate plate = Plates.with("A;DD;EA;DD");
        Check.due("EA has 17 units", plate.longest(), 2);
        plate.adjust('D', 'D', 3);
        Check.due("two of 17", plate.name(1, 1), 17);
        Check.due("the lowest of three", plate.longest(), 1);
        plate.swap(0, 3);
        Check.due("the lowest one", plate.longest(), 0);
        plate.adjust('E', 'A', 1);
        Check.due("EA again", plate.longest(), 2);
        plate.engrave(0);
        Check.due("engraved or not", plate.longest(), 2);
        Check.due("without names", new NamePlate().longest(), Plates.NONE);
    }

    private static void adjustmentTells() {
        NamePlate plate = new NamePlate();
        plate.adjust('.', 'Z', -3);
        plate.adjust('Z', '-', 3);
        Check.due("mark and letter", plate.adjustment('.', 'Z'), -3);
        Check.due("letter and mark", plate.adjustment('Z', '-'), 3);
        Check.due("turned round", plate.adjustment('-', 'Z'), 0);
        char[] unknown = {'a', '@', '[', ',', '/', ';', 0, (char) 255, (char) ('Z' + 256), (char) 65535};
        for (char code : unknown) {
            Check.due("left " + (int) code, plate.adjustment(code, 'Z'), Plates.UNKNOWN);
            Check.due("right " + (int) code, plate.adjustment('Z', code), Plates.UNKNOWN);
        }
    }

    private static void pairTells() {
        NamePlate plate = new NamePlate();
        plate.adjust('A', 'B', 1);
        plate.adjust('C', '.', -2);
        plate.adjust('-', 'E', 3);
        pairs(plate, "AB", 1, "C.", -2, "-E", 3);
        plate.adjust('A', 'B', -1);
        pairs(plate, "AB", -1, "C.", -2, "-E", 3);
        plate.adjust('A', 'B', 0);
        pairs(plate, "C.", -2, "-E", 3);
        plate.adjust('A', 'B', 2);
        pairs(plate, "C.", -2, "-E", 3, "AB", 2);
        plate.adjust('-', 'E', 0);
        pairs(plate, "C.", -2, "AB", 2);
        plate.undo();
        pairs(plate, "C.", -2, "-E", 3, "AB", 2);
        int[] out = {-1, 3, Integer.MIN_VALUE, Integer.MAX_VALUE};
        for (int what : out) {
            Check.due("what " + what, plate.pair(0, what), Plates.BAD_VALUE);
            Check.due("what " + what + " of no pair", plate.pair(9, what), Plates.BAD_VALUE);
        }
        Check.due("place -1", plate.pair(-1, 0), Plates.BAD_VALUE);
        Check.due("place far below 0", plate.pair(Integer.MIN_VALUE, 0), Plates.BAD_VALUE);
        Check.due("place 16", plate.pair(16, 0), Plates.NONE);
        Check.due("place far behind", plate.pair(Integer.MAX_VALUE, 2), Plates.NONE);
    }

    private static void pairs(NamePlate plate, Object... due) {
        Check.due("number of pairs", plate.count(9), due.length / 2);
        for (int place = 0; place < due.length / 2; place++) {
            String signs = (String) due[2 * place];
            Check.due("left of " + place, plate.pair(place, 0), signs.charAt(0));
            Check.due("right of " + place, plate.pair(place, 1), signs.charAt(1));
            Check.due("adjustment of " + place, plate.pair(place, 2), (Integer) due[2 * place + 1]);
        }
        Check.due("behind the last pair", plate.pair(due.length / 2, 0), Plates.NONE);
    }

    private static void countTells() {
        NamePlate plate = Plates.with("A;B;C;D");
        plate.setColumns(3);
        plate.setMargin(30);
        plate.adjust('A', 'B', 1);
        plate.engraveAll();
        plate.recut(700, 800);
        plate.engrave(1);
        int[] due = {700, 800, 30, 3, 4, 1, 2, 1, 4, 1, 5, 7};
        for (int what = 0; what < due.length; what++) {
            Check.due("count(" + what + ")", plate.count(what), due[what]);
        }
        int[] out = {-1, 12, Integer.MIN_VALUE, Integer.MAX_VALUE};
        for (int what : out) {
            Check.due("count(" + what + ")", plate.count(what), Plates.BAD_VALUE);
        }
        for (int names = 4; names > 0; names--) {
            Check.due("rows of " + names, new int[] {0, 1, 1, 1, 2}[names], rowsOf(names));
        }
    }

    private static int rowsOf(int names) {
        NamePlate plate = Plates.withLetters(names);
        plate.setColumns(3);
        return plate.count(6);
    }
}
