/** Promises 13 to 15: undo, keep, restore. */
public final class HistoryTest {

    public static void main(String[] args) {
        undoesFive();
        undoOfEachAct();
        whatIsNoAct();
        keepsAndRestores();
        snapshotIsNoState();
        Check.end();
    }

    private static void undoesFive() {
        NamePlate plate = new NamePlate();
        for (int margin = 1; margin <= 8; margin++) {
            Check.due("act " + margin, plate.setMargin(margin), margin == 1 ? 20 : margin - 1);
            Check.due("states", plate.count(10), Math.min(margin, 5));
        }
        for (int left = 4; left >= 0; left--) {
            Check.due("undo", plate.undo(), left);
            Check.due("margin", plate.count(2), left + 3);
        }
        Check.due("one more", plate.undo(), Plates.NONE);
        Check.due("the oldest one that is left", plate.count(2), 3);
        for (int round = 0; round < 12; round++) {
            int previous = round % 2 == 0 ? 60 : 50;
            Check.due("act after undo", plate.setMargin(110 - previous), round == 0 ? 3 : previous);
        }
        Check.due("five again", plate.count(10), 5);
        plate.undo();
        Check.due("no redo", plate.count(2), 50);
        Check.due("an act behind an undo", plate.setMargin(70), 50);
        plate.undo();
        Check.due("undone again", plate.count(2), 50);
    }

    private static void undoOfEachAct() {
        NamePlate plate = Plates.with("AB;C");
        plate.adjust('A', 'B', 2);
        plate.swap(0, 1);
        plate.setColumns(2);
        plate.recut(1000, 900);
        Check.due("five states", plate.count(10), 5);
        Check.due("undo recut", plate.undo(), 4);
        Check.due("width", plate.count(0), 2000);
        Check.due("height", plate.count(1), 1000);
        Check.due("cuts", plate.count(7), 0);
        Check.due("undo setColumns", plate.undo(), 3);
        Check.due("columns", plate.count(3), 1);
        Check.due("undo swap", plate.undo(), 2);
        Plates.dueNames("as read", plate, "AB", "C");
        Check.due("undo adjust", plate.undo(), 1);
        Check.due("no pair", plate.pair(0, 2), Plates.NONE);
        Check.due("adjustment", plate.adjustment('A', 'B'), 0);
        Check.due("undo readNames", plate.undo(), 0);
        Check.due("no names", plate.count(4), 0);
    }

    private static void whatIsNoAct() {
        NamePlate plate = Plates.with("A");
        plate.clearText();
        plate.type('B');
        plate.keep();
        plate.size();
        plate.sizeBy(300, 100);
        plate.sizeWithout(0);
        plate.leastWidth(3);
        plate.name(0, 5);
        plate.signAt(30, 30);
        Check.due("one act alone", plate.count(10), 1);
    }

    private static void keepsAndRestores() {
        NamePlate plate = new NamePlate();
        Check.due("no snapshot", plate.restore(), Plates.NONE);
        Check.due("not recorded", plate.count(10), 0);
        Check.due("keep the empty plate", plate.keep(), 0);
        Plates.read(plate, "A;B;C");
        Check.due("keep three", plate.keep(), 3);
        plate.adjust('A', 'B', 1);
        plate.setMargin(7);
        plate.remove(0);
        plate.engraveAll();
        plate.recut(400, 500);
        Check.due("restore", plate.restore(), 3);
        Plates.dueNames("restored", plate, "A", "B", "C");
        int[] counts = {2000, 1000, 20, 1, 3, 0, 3, 0, 0, 0, 5, 5};
        for (int what = 0; what < counts.length; what++) {
            Check.due("restored count(" + what + ")", plate.count(what), counts[what]);
        }
        Check.due("it is an act, also when nothing is other", plate.restore(), 3);
        Check.due("undo", plate.undo(), 4);
        Check.due("undo the first restore", plate.undo(), 3);
        Check.due("width", plate.count(0), 400);
        Check.due("lost", plate.count(8), 2);
        Check.due("pair", plate.pair(0, 1), 'B');
        Plates.dueNames("undone", plate, "B", "C");
        Check.due("the snapshot stays", plate.restore(), 3);
    }

    private static void snapshotIsNoState() {
        NamePlate plate = Plates.with("A;B");
        plate.engrave(1);
        Check.due("keep two", plate.keep(), 2);
        plate.undo();
        plate.undo();
        Check.due("nothing to undo", plate.undo(), Plates.NONE);
        Check.due("restore behind undo", plate.restore(), 2);
        Check.due("with what is engraved", plate.name(1, 2), 1);
        Check.due("and its size", plate.size(), 40);
        Check.due("margin is bound", plate.setMargin(0), Plates.NOT_POSSIBLE);
        plate.recut(300, 100);
        Check.due("keep in place of the old one", plate.keep(), 2);
        plate.undo();
        Check.due("restore the new one", plate.restore(), 2);
        Check.due("width", plate.count(0), 300);
        Check.due("engraved", plate.count(5), 0);
    }
}
