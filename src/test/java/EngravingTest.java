/** Promises 11 and 12: engrave and engraveAll. */
public final class EngravingTest {

    public static void main(String[] args) {
        engraves();
        keepsTheSize();
        refusesWhatDoesNotFit();
        engravesAll();
        engravesAllThatFit();
        sizeOfTheFirst();
        Check.end();
    }

    private static void engraves() {
        NamePlate plate = Plates.with("TO;A");
        int[] unknown = {-1, 2, Integer.MIN_VALUE, Integer.MAX_VALUE};
        for (int seat : unknown) {
            Check.due("engrave " + seat, plate.engrave(seat), Plates.UNKNOWN);
        }
        Check.due("where it would begin", plate.name(0, 5), 700);
        Check.due("none is recorded", plate.count(10), 1);
        Check.due("engrave", plate.engrave(0), 700);
        Check.due("once more", plate.engrave(0), Plates.NONE);
        Check.due("engraved", plate.name(0, 2), 1);
        Check.due("the other one", plate.name(1, 2), 0);
        Check.due("number", plate.count(5), 1);
        Check.due("one is recorded", plate.count(10), 2);
        Check.due("undo", plate.undo(), 1);
        Check.due("engraved, undone", plate.name(0, 2), 0);
        Check.due("margin is free again", plate.setMargin(0), 20);
    }

    private static void keepsTheSize() {
        // Alone, 16 signs of 155 units have the size 12 on 1960 points; "A" has 40.
        NamePlate plate = Plates.with("A");
        plate.engrave(0);
        Check.due("a longer one", Plates.read(plate, Plates.SIXTEEN), 1);
        Check.due("the size stays", plate.size(), 40);
        Check.due("what it would be", plate.sizeBy(2000, 1000), 12);
        plate.recut(2000, 1000);
        Check.due("after a cut", plate.size(), 12);
        plate.engrave(1);
        Check.due("remove is behind no engraved one", plate.remove(0), Plates.NOT_POSSIBLE);
        plate.recut(2000, 1000);
        plate.remove(1);
        Check.due("without the long one", plate.size(), 40);
        plate.engrave(0);
        Check.due("engraved at 40", plate.name(0, 8), 120);
    }

    private static void refusesWhatDoesNotFit() {
        NamePlate plate = Plates.with("A");
        plate.setColumns(2);
        plate.engrave(0);
        Plates.read(plate, Plates.SIXTEEN + ";B");
        Check.due("too wide", plate.engrave(1), Plates.NOT_POSSIBLE);
        Check.due("the one behind fits", plate.engrave(2), 20 + (980 - 320) / 2);
        NamePlate low = Plates.with("A");
        low.recut(2000, 1000);
        low.setMargin(0);
        low.recut(2000, 961);
        low.engrave(0);
        Check.due("two more", Plates.read(low, "A;A"), 2);
        Check.due("the second row is whole", low.name(1, 7), 1);
        Check.due("the third one is too low", low.engrave(2), Plates.NOT_POSSIBLE);
        Check.due("the second one fits", low.engrave(1) >= 0 ? 1 : 0, 1);
        NamePlate tiny = Plates.with("A");
        tiny.setMargin(100);
        tiny.recut(300, 100);
        Check.due("the size is 0", tiny.engrave(0), Plates.NOT_POSSIBLE);
        Check.due("all at the size 0", tiny.engraveAll(), Plates.NONE);
        Check.due("nothing is recorded", tiny.count(10), 3);
    }

    private static void engravesAll() {
        NamePlate plate = new NamePlate();
        Check.due("without names", plate.engraveAll(), Plates.NONE);
        Check.due("nothing is recorded", plate.count(10), 0);
        plate = Plates.withLetters(20);
        Check.due("twenty", plate.engraveAll(), 20);
        Check.due("engraved", plate.count(5), 20);
        Check.due("none is left", plate.engraveAll(), Plates.NONE);
        Check.due("one act", plate.undo(), 1);
        Check.due("undone", plate.count(5), 0);
        plate.engrave(7);
        Check.due("the others", plate.engraveAll(), 19);
        Check.due("the last one", plate.name(19, 2), 1);
    }

    private static void engravesAllThatFit() {
        NamePlate plate = Plates.with("A");
        plate.engrave(0);
        Plates.read(plate, "B;" + Plates.SIXTEEN + ";C");
        Check.due("one in the second row of 480 points", plate.engraveAll(), 1);
        Check.due("first row", plate.name(0, 2), 1);
        Check.due("second row", plate.name(1, 2), 1);
        Check.due("too wide", plate.name(2, 2), 0);
        Check.due("too low", plate.name(3, 2), 0);
        Check.due("none fits any more", plate.engraveAll(), Plates.NONE);
    }

    private static void sizeOfTheFirst() {
        NamePlate plate = Plates.with("A");
        plate.engrave(0);
        plate.keep();
        plate.recut(6000, 500);
        Plates.read(plate, Plates.SIXTEEN + ";" + Plates.SIXTEEN);
        Check.due("three rows on 460 points", plate.size(), 12);
        plate.engrave(2);
        Check.due("at 12", plate.size(), 12);
        plate.restore();
        Check.due("back at 40", plate.size(), 40);
        Check.due("undo", plate.undo(), 4);
        Check.due("again at 12", plate.size(), 12);
        Check.due("width of a name", plate.name(0, 8), 36);
    }
}
