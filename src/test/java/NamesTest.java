/** Promises 6 to 10: type, clearText, readNames, remove, swap. */
public final class NamesTest {

    public static void main(String[] args) {
        typeAndClear();
        textIsNoState();
        faults();
        readsNames();
        readsAllOrNone();
        removes();
        removeOfEngraved();
        swaps();
        Check.end();
    }

    private static void typeAndClear() {
        NamePlate plate = new NamePlate();
        Check.due("clear the empty text", plate.clearText(), 0);
        char[] any = {0, 'A', ';', (char) 255, (char) 256, (char) 65535};
        for (int at = 0; at < 60; at++) {
            Check.due("type " + at, plate.type(any[at % any.length]), at + 1);
        }
        Check.due("the 61st", plate.type('A'), Plates.FULL);
        Check.due("length of a full text", plate.count(11), 60);
        Check.due("clear the full text", plate.clearText(), 60);
        Check.due("length then", plate.count(11), 0);
        Check.due("type again", plate.type('B'), 1);
        Check.due("read what was typed last", plate.readNames(), 1);
        Plates.dueNames("of B", plate, "B");
    }

    private static void textIsNoState() {
        NamePlate plate = Plates.with("A");
        Check.due("history of typing", plate.count(10), 1);
        plate.keep();
        plate.type('B');
        Check.due("undo", plate.undo(), 0);
        Check.due("the text stays by undo", plate.count(11), 2);
        plate.restore();
        Check.due("the text stays by restore", plate.count(11), 2);
        Check.due("clear", plate.clearText(), 2);
        plate.undo();
        Check.due("the text stays empty by undo", plate.count(11), 0);
    }

    private static void faults() {
        String fifteen = "ABCDEFGHIJKLMNO";
        fault("", 0);
        fault("a", 0);
        fault("A;", 2);
        fault(";", 0);
        fault(";A", 0);
        fault("A;;B", 2);
        fault(".A", 0);
        fault("-", 0);
        fault("A.", 2);
        fault("A.-B", 2);
        fault("A--B", 2);
        fault("A.;B", 2);
        fault("A;.B", 2);
        fault("A;B-", 4);
        fault("A B", 1);
        fault("A,B", 1);
        fault("AB;CdE;f", 4);
        fault("A@", 1);
        fault("A[", 1);
        fault("A/B", 1);
        fault("A" + (char) 0, 1);
        fault("A" + (char) ('A' + 256), 1);
        fault("A" + (char) 65535 + "B", 1);
        fault(fifteen + "P" + "Q", 16);
        fault(fifteen + "P" + ".", 16);
        fault(fifteen + "P" + "-Q", 16);
        fault(fifteen + ".", 16);
        fault(fifteen + "-Q", 16);
        fault(fifteen + ".;A", 16);
        fault(fifteen + "..", 16);
        fault("A;" + fifteen + "PQ", 18);
        fault("A;" + fifteen + ".", 18);
        fault("A-B-C-D-E-F-G-H-I", 16);
        StringBuilder full = new StringBuilder("A");
        while (full.length() < 60) {
            full.append(";A");
        }
        fault(full.substring(0, 60), 60);
        fault(full.substring(0, 59) + "b", 59);
    }

    private static void fault(String text, int at) {
        NamePlate plate = new NamePlate();
        Check.due("fault of " + text, Plates.read(plate, text), -100 - at);
        Check.due("no name of " + text, plate.count(4), 0);
        Check.due("no state of " + text, plate.count(10), 0);
        Check.due("the text " + text + " stays", plate.count(11), text.length());
    }

    private static void readsNames() {
        NamePlate plate = new NamePlate();
        Check.due("one letter", Plates.read(plate, "Q"), 1);
        Check.due("three", Plates.read(plate, "A.B-C;" + Plates.SIXTEEN + ";Z-Z"), 3);
        Check.due("the text stays", plate.count(11), 26);
        Plates.dueNames("read", plate, "Q", "A.B-C", Plates.SIXTEEN, "Z-Z");
        Check.due("once more", plate.readNames(), 3);
        Check.due("seven names", plate.count(4), 7);
        Check.due("one act each", plate.count(10), 3);
        plate.undo();
        plate.undo();
        Plates.dueNames("undone", plate, "Q");
        Check.due("sixteen signs, the last mark at 14", Plates.read(plate, "ABCDEFGHIJKLMN.P"), 1);
        plate.engrave(0);
        Check.due("more when one is engraved", Plates.read(plate, "B"), 1);
        Plates.dueNames("with an engraved one", plate, "Q", "ABCDEFGHIJKLMN.P", "B");
    }

    private static void readsAllOrNone() {
        NamePlate plate = Plates.withLetters(19);
        Check.due("two on 19", Plates.read(plate, "X;Y"), Plates.FULL);
        Check.due("none is added", plate.count(4), 19);
        Check.due("none is recorded", plate.count(10), 1);
        Check.due("one on 19", Plates.read(plate, "X"), 1);
        Check.due("one on 20", plate.readNames(), Plates.FULL);
        Check.due("a fault comes first", Plates.read(plate, "X."), -102);
        Check.due("twenty", plate.count(4), 20);
        NamePlate empty = new NamePlate();
        StringBuilder text = new StringBuilder("A");
        for (int name = 1; name < 20; name++) {
            text.append(";A");
        }
        Check.due("21 at once", Plates.read(empty, text + ";A"), Plates.FULL);
        Check.due("30 at once", Plates.read(empty, text + ";A;A;A;A;A;A;A;A;A;A"), Plates.FULL);
        Check.due("20 at once", Plates.read(empty, text.toString()), 20);
    }

    private static void removes() {
        NamePlate plate = Plates.with("A.B;CCC;D;EF");
        int[] unknown = {-1, 4, 20, Integer.MIN_VALUE, Integer.MAX_VALUE};
        for (int seat : unknown) {
            Check.due("remove " + seat, plate.remove(seat), Plates.UNKNOWN);
        }
        Check.due("none is recorded", plate.count(10), 1);
        Check.due("remove 1", plate.remove(1), 3);
        Plates.dueNames("without 1", plate, "A.B", "D", "EF");
        Check.due("remove the last", plate.remove(2), 2);
        Check.due("remove the first", plate.remove(0), 1);
        Plates.dueNames("without three", plate, "D");
        Check.due("remove all", plate.remove(0), 0);
        Check.due("no one left", plate.remove(0), Plates.UNKNOWN);
        Check.due("size without names", plate.size(), 40);
        Check.due("undo", plate.undo(), 4);
        plate.undo();
        plate.undo();
        plate.undo();
        Plates.dueNames("undone", plate, "A.B", "CCC", "D", "EF");
        NamePlate twenty = Plates.withLetters(20);
        Check.due("remove of twenty", twenty.remove(0), 19);
        Check.due("the last one came nearer", twenty.sign(18, 0, 0), 'T');
        Check.due("room for one", Plates.read(twenty, "ZZ"), 1);
        Check.due("it is the last one", twenty.name(19, 0), 2);
    }

    private static void removeOfEngraved() {
        NamePlate plate = Plates.withLetters(4);
        plate.engrave(2);
        Check.due("before an engraved one", plate.remove(0), Plates.NOT_POSSIBLE);
        Check.due("next before it", plate.remove(1), Plates.NOT_POSSIBLE);
        Check.due("the engraved one", plate.remove(2), Plates.NOT_POSSIBLE);
        Check.due("no seat", plate.remove(4), Plates.UNKNOWN);
        Check.due("behind it", plate.remove(3), 3);
        plate.recut(2000, 1000);
        Check.due("after a cut", plate.remove(0), 2);
        Plates.dueNames("then", plate, "B", "C");
    }

    private static void swaps() {
        NamePlate plate = Plates.with("A.B;" + Plates.SIXTEEN + ";D;E");
        int size = plate.size();
        int[] unknown = {-1, 4, Integer.MIN_VALUE, Integer.MAX_VALUE};
        for (int seat : unknown) {
            Check.due("swap " + seat, plate.swap(seat, 0), Plates.UNKNOWN);
            Check.due("swap with " + seat, plate.swap(0, seat), Plates.UNKNOWN);
            Check.due("swap both " + seat, plate.swap(seat, seat), Plates.UNKNOWN);
        }
        Check.due("swap with itself", plate.swap(1, 1), Plates.NONE);
        Check.due("none is recorded", plate.count(10), 1);
        Check.due("swap", plate.swap(0, 1), size);
        Plates.dueNames("swapped", plate, Plates.SIXTEEN, "A.B", "D", "E");
        Check.due("swap backwards", plate.swap(3, 0), size);
        Plates.dueNames("swapped again", plate, "E", "A.B", "D", Plates.SIXTEEN);
        plate.undo();
        Plates.dueNames("undone", plate, Plates.SIXTEEN, "A.B", "D", "E");
        plate.engrave(1);
        Check.due("engraved", plate.swap(1, 0), Plates.NOT_POSSIBLE);
        Check.due("with an engraved one", plate.swap(0, 1), Plates.NOT_POSSIBLE);
        Check.due("the engraved one with itself", plate.swap(1, 1), Plates.NOT_POSSIBLE);
        Check.due("two others", plate.swap(0, 3), size);
        plate.recut(300, 100);
        plate.setMargin(50);
        Check.due("the size can be 0", plate.swap(0, 1), 0);
        Check.due("0 is an act", plate.undo(), 4);
    }
}
