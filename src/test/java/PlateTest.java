/** Promises 1 to 5: a new object, recut, setMargin, setColumns, adjust. */
public final class PlateTest {

    public static void main(String[] args) {
        newObject();
        recutAnswers();
        recutLosesTheEngraved();
        setMargin();
        setColumns();
        adjustRefuses();
        adjustSets();
        adjustOfEngravedPairs();
        adjustOfSixteenPairs();
        Check.end();
    }

    private static void newObject() {
        NamePlate plate = new NamePlate();
        int[] counts = {2000, 1000, 20, 1, 0, 0, 0, 0, 0, 0, 0, 0};
        for (int what = 0; what < counts.length; what++) {
            Check.due("new count(" + what + ")", plate.count(what), counts[what]);
        }
        Check.due("new size", plate.size(), 40);
        Check.due("new longest", plate.longest(), Plates.NONE);
        Check.due("new name", plate.name(0, 0), Plates.UNKNOWN);
        Check.due("new pair", plate.pair(0, 0), Plates.NONE);
        Check.due("new undo", plate.undo(), Plates.NONE);
        Check.due("new restore", plate.restore(), Plates.NONE);
        Check.due("new readNames", plate.readNames(), -100);
        for (int code = 0; code < 128; code++) {
            boolean sign = code >= 'A' && code <= 'Z' || code == '.' || code == '-';
            Check.due("new adjustment " + code, plate.adjustment((char) code, 'A'), sign ? 0 : Plates.UNKNOWN);
        }
    }

    private static void recutAnswers() {
        NamePlate plate = new NamePlate();
        int[][] refused = {{299, 1000}, {6001, 1000}, {2000, 99}, {2000, 3001}, {0, 0}, {-1, -1},
            {Integer.MIN_VALUE, 1000}, {2000, Integer.MAX_VALUE}};
        for (int[] plateSize : refused) {
            Check.due("recut out of range", plate.recut(plateSize[0], plateSize[1]), Plates.BAD_VALUE);
        }
        Check.due("cuts after refused ones", plate.count(7), 0);
        Check.due("history after refused ones", plate.count(10), 0);
        int[][] taken = {{300, 100}, {6000, 3000}, {300, 3000}, {6000, 100}, {6000, 100}};
        for (int cut = 0; cut < taken.length; cut++) {
            Check.due("recut", plate.recut(taken[cut][0], taken[cut][1]), 0);
            Check.due("width", plate.count(0), taken[cut][0]);
            Check.due("height", plate.count(1), taken[cut][1]);
            Check.due("cuts", plate.count(7), cut + 1);
            Check.due("each is an act", plate.count(10), cut + 1);
        }
    }

    private static void recutLosesTheEngraved() {
        NamePlate plate = Plates.withLetters(3);
        plate.engrave(2);
        plate.engrave(0);
        Check.due("lost", plate.recut(2000, 1000), 2);
        Check.due("engraved then", plate.count(5), 0);
        Check.due("name 0 engraved", plate.name(0, 2), 0);
        Check.due("names stay", plate.count(4), 3);
        Check.due("lost in all", plate.count(8), 2);
        Check.due("lost again", plate.recut(2000, 1000), 0);
        Check.due("margin is free again", plate.setMargin(10), 20);
        plate.engrave(1);
        Check.due("lost one", plate.recut(300, 100), 1);
        Check.due("lost in all, three", plate.count(8), 3);
        Check.due("size of the new plate", plate.size(), 2);
        Check.due("undo", plate.undo(), 4);
        Check.due("lost, undone", plate.count(8), 2);
        Check.due("cuts, undone", plate.count(7), 2);
        Check.due("engraved, undone", plate.name(1, 2), 1);
        Check.due("width, undone", plate.count(0), 2000);
    }

    private static void setMargin() {
        NamePlate plate = Plates.with("A");
        int states = plate.count(10);
        int[] refused = {-1, 101, Integer.MIN_VALUE, Integer.MAX_VALUE};
        for (int margin : refused) {
            Check.due("margin " + margin, plate.setMargin(margin), Plates.BAD_VALUE);
        }
        Check.due("margin as it is", plate.setMargin(20), Plates.NONE);
        Check.due("none is recorded", plate.count(10), states);
        Check.due("margin 0", plate.setMargin(0), 20);
        Check.due("margin 100", plate.setMargin(100), 0);
        Check.due("margin told", plate.count(2), 100);
        Check.due("two are recorded", plate.count(10), states + 2);
        Check.due("plate of 100 points", plate.recut(300, 100), 0);
        Check.due("all margin", plate.size(), 0);
        Check.due("all margin, without names", plate.sizeWithout(0), 40);
        Check.due("margin 50 leaves no height", plate.setMargin(50), 100);
        Check.due("size then", plate.size(), 0);
        Check.due("margin 44 leaves a row", plate.setMargin(44), 50);
        Check.due("size of one row", plate.size(), 1);
        plate.engrave(0);
        Check.due("engraved", plate.setMargin(20), Plates.NOT_POSSIBLE);
        Check.due("engraved, as it is", plate.setMargin(44), Plates.NOT_POSSIBLE);
        Check.due("engraved, out of range", plate.setMargin(101), Plates.BAD_VALUE);
        Check.due("margin stays", plate.count(2), 44);
        plate.undo();
        plate.undo();
        Check.due("margin undone", plate.count(2), 50);
    }

    private static void setColumns() {
        NamePlate plate = Plates.withLetters(4);
        int states = plate.count(10);
        int[] refused = {0, -1, 4, Integer.MIN_VALUE, Integer.MAX_VALUE};
        for (int columns : refused) {
            Check.due("columns " + columns, plate.setColumns(columns), Plates.BAD_VALUE);
        }
        Check.due("columns as they are", plate.setColumns(1), Plates.NONE);
        Check.due("none is recorded", plate.count(10), states);
        Check.due("three columns", plate.setColumns(3), 1);
        Check.due("rows of three columns", plate.count(6), 2);
        Check.due("two columns", plate.setColumns(2), 3);
        Check.due("columns told", plate.count(3), 2);
        Check.due("two are recorded", plate.count(10), states + 2);
        plate.engrave(3);
        Check.due("engraved", plate.setColumns(3), Plates.NOT_POSSIBLE);
        Check.due("engraved, as they are", plate.setColumns(2), Plates.NOT_POSSIBLE);
        Check.due("engraved, out of range", plate.setColumns(0), Plates.BAD_VALUE);
        plate.undo();
        plate.undo();
        Check.due("columns undone", plate.count(3), 3);
    }

    private static void adjustRefuses() {
        NamePlate plate = new NamePlate();
        char[] unknown = {'a', '@', '[', ',', '/', ';', ' ', '0', 0, (char) 255, (char) ('A' + 256), (char) 65535};
        for (char code : unknown) {
            Check.due("left " + (int) code, plate.adjust(code, 'A', 1), Plates.UNKNOWN);
            Check.due("right " + (int) code, plate.adjust('A', code, 1), Plates.UNKNOWN);
            Check.due("unknown comes first", plate.adjust('A', code, 4), Plates.UNKNOWN);
        }
        int[] refused = {-4, 4, Integer.MIN_VALUE, Integer.MAX_VALUE};
        for (int by : refused) {
            Check.due("by " + by, plate.adjust('A', 'B', by), Plates.BAD_VALUE);
        }
        Check.due("0 as at first", plate.adjust('A', 'B', 0), Plates.NONE);
        Check.due("nothing is recorded", plate.count(10), 0);
        Check.due("no pair", plate.count(9), 0);
    }

    private static void adjustSets() {
        NamePlate plate = Plates.with("AB");
        Check.due("from 0", plate.adjust('A', 'B', -3), 0);
        Check.due("from -3", plate.adjust('A', 'B', 3), -3);
        Check.due("as it is", plate.adjust('A', 'B', 3), Plates.NONE);
        Check.due("the other way round", plate.adjustment('B', 'A'), 0);
        Check.due("units", plate.name(0, 1), 3 + 8 + 8);
        Check.due("marks", plate.adjust('.', '-', 1), 0);
        Check.due("a sign with itself", plate.adjust('Z', 'Z', 2), 0);
        Check.due("history", plate.count(10), 5);
        plate.undo();
        plate.undo();
        Check.due("pairs, undone", plate.count(9), 1);
        plate.undo();
        Check.due("undone", plate.adjustment('A', 'B'), -3);
        Check.due("least space is 1", plate.adjust('C', 'C', -3), 0);
        Check.due("read CC", Plates.read(plate, "CC"), 1);
        Check.due("units with a space of 1", plate.name(1, 1), 6 + 1 + 6);
    }

    private static void adjustOfEngravedPairs() {
        NamePlate plate = Plates.with("ABC;CD");
        plate.adjust('B', 'C', 2);
        plate.engrave(0);
        Check.due("first pair", plate.adjust('A', 'B', 1), Plates.NOT_POSSIBLE);
        Check.due("last pair", plate.adjust('B', 'C', 1), Plates.NOT_POSSIBLE);
        Check.due("engraved, as it is", plate.adjust('B', 'C', 2), Plates.NOT_POSSIBLE);
        Check.due("engraved, out of range", plate.adjust('B', 'C', 4), Plates.BAD_VALUE);
        Check.due("turned round", plate.adjust('B', 'A', 1), 0);
        Check.due("not next to each other", plate.adjust('A', 'C', 1), 0);
        Check.due("of a name that is not engraved", plate.adjust('C', 'D', -1), 0);
        plate.recut(2000, 1000);
        Check.due("free after a cut", plate.adjust('B', 'C', 0), 2);
    }

    private static void adjustOfSixteenPairs() {
        NamePlate plate = Plates.with("XX;QA");
        for (int place = 0; place < 16; place++) {
            Check.due("pair " + place, plate.adjust((char) ('A' + place), 'A', 1), 0);
        }
        int states = plate.count(10);
        Check.due("the 17th", plate.adjust('Q', 'A', 1), Plates.FULL);
        Check.due("the 17th by 0", plate.adjust('Q', 'A', 0), Plates.NONE);
        Check.due("the 17th out of range", plate.adjust('Q', 'A', -4), Plates.BAD_VALUE);
        Check.due("the 17th unknown", plate.adjust('Q', 'a', 1), Plates.UNKNOWN);
        Check.due("history as it was", plate.count(10), states);
        Check.due("one of the 16", plate.adjust('P', 'A', 2), 1);
        plate.engrave(1);
        Check.due("the 17th of an engraved name", plate.adjust('Q', 'A', 1), Plates.NOT_POSSIBLE);
        Check.due("one is 0", plate.adjust('A', 'A', 0), 1);
        Check.due("fifteen", plate.count(9), 15);
        Check.due("another one", plate.adjust('X', 'Y', 3), 0);
        Check.due("full again", plate.adjust('X', 'Z', 3), Plates.FULL);
        Check.due("it is the last one", plate.pair(15, 0), 'X');
        Check.due("the second is the first one", plate.pair(0, 0), 'B');
    }
}
