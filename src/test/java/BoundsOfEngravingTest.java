/** The bounds that promises 11 to 15 name: engrave, engraveAll, undo, keep, restore. */
public final class BoundsOfEngravingTest extends Bounds {

    public static void main(String[] args) {
        runAll(BoundsOfEngravingTest.class);
    }

    // ---- promise 11: engrave

    @Bound(promise = 11, says = "`seat`: a seat that is taken")
    static void theFirstAndTheLastSeatAreEngraved() {
        NamePlate plate = withLetters(20);
        due("the first one", plate.engrave(0), plate.name(0, 5));
        due("the last one", plate.engrave(19), plate.name(19, 5));
        due("the first one is engraved", plate.name(0, 2), 1);
        due("the last one is engraved", plate.name(19, 2), 1);
        due("the others are not", plate.count(5), 2);
        dueRefused("engrave", 0, 19, UNKNOWN, plate::engrave);
        due("a seat of a plate without names", new NamePlate().engrave(0), UNKNOWN);
    }

    @Bound(promise = 11, says = "Returns where it begins")
    static void aNameCanBeginAt0() {
        NamePlate plate = with(MIXED, 350, 3000);
        plate.setMargin(0);
        due("as wide as the plate without a margin", plate.engrave(0), 0);
    }

    @Bound(promise = 11, says = "NOT_POSSIBLE if it does not fit at the size, or this is 0")
    static void aNameThatIsOnePointTooWideIsNotEngraved() {
        NamePlate plate = withEngraved();
        read(plate, "AVATAR");
        due("1960 points on 1960", plate.engrave(1), 20);
        NamePlate narrow = with("A", 1999, 1000);
        narrow.engrave(0);
        read(narrow, "AVATAR");
        due("1960 points on 1959", narrow.engrave(1), NOT_POSSIBLE);
    }

    @Bound(promise = 11, says = "NOT_POSSIBLE if it does not fit at the size, or this is 0")
    static void aNameThatIsOnePointTooLowIsNotEngraved() {
        NamePlate plate = withEngraved();
        read(plate, "A;A");
        due("the second row of 480 points on 960", plate.engrave(1), 940);
        due("the third row", plate.engrave(2), NOT_POSSIBLE);
        NamePlate low = with("A", 2000, 999);
        low.engrave(0);
        read(low, "A");
        due("the second row of 480 points on 959", low.engrave(1), NOT_POSSIBLE);
    }

    @Bound(promise = 11, says = "NOT_POSSIBLE if it does not fit at the size, or this is 0")
    static void noNameIsEngravedAtTheSize0() {
        due("on a plate that is all margin", withoutSize().engrave(0), NOT_POSSIBLE);
        NamePlate narrow = with("A;" + SIXTEEN, 300, 1000);
        narrow.setColumns(3);
        due("155 units on 86 points", narrow.size(), 0);
        due("the long one", narrow.engrave(1), NOT_POSSIBLE);
        due("the short one", narrow.engrave(0), NOT_POSSIBLE);
    }

    @Bound(promise = 11, says = "NOT_POSSIBLE if it does not fit at the size, or this is 0")
    static void aNameIsEngravedAtTheSize1() {
        NamePlate plate = with(SIXTEEN, 300, 100);
        due("size", plate.size(), 1);
        due("155 units on 260 points", plate.engrave(0), plate.name(0, 5));
        due("engraved names", plate.count(5), 1);
    }

    @Bound(promise = 11, says = "NONE if it is engraved already")
    static void noNameIsEngravedTwice() {
        NamePlate plate = withLetters(20);
        plate.engraveAll();
        due("the first one", plate.engrave(0), NONE);
        due("the last one", plate.engrave(19), NONE);
        due("states", plate.count(10), 2);
        due("engraved names", plate.count(5), 20);
    }

    @Bound(promise = 11, says = "Returns where it begins; UNKNOWN; NOT_POSSIBLE")
    static void anUnknownSeatComesBeforeTheSize0() {
        NamePlate plate = withoutSize();
        dueRefused("engrave at the size 0", 0, 0, UNKNOWN, plate::engrave);
    }

    @Bound(promise = 11, in = "ERRORS", says = CHANGES_NOTHING)
    static void aRefusedEngraveChangesNothing() {
        dueUnchanged("engrave(-1)", Bounds::rich, plate -> plate.engrave(-1), UNKNOWN);
        dueUnchanged("engrave(3)", Bounds::rich, plate -> plate.engrave(3), UNKNOWN);
        dueUnchanged("engrave at the size 0", BoundsOfEngravingTest::keptWithoutSize, plate -> plate.engrave(0),
                NOT_POSSIBLE);
        dueUnchanged("engrave what is engraved", Bounds::rich, plate -> plate.engrave(0), NONE);
    }

    private static NamePlate keptWithoutSize() {
        NamePlate plate = withoutSize();
        plate.keep();
        return plate;
    }

    // ---- promise 12: engraveAll

    @Bound(promise = 12, says = "Engraves all names that are not engraved and fit.")
    static void theNamesThatFitToThePointAreEngraved() {
        NamePlate plate = withEngraved();
        read(plate, "AVATAR;A;A");
        due("one of three fits", plate.engraveAll(), 1);
        due("1960 points on 1960, and the second row", plate.name(1, 2), 1);
        due("the third row", plate.name(2, 2), 0);
        NamePlate narrow = with("A", 1999, 3000);
        narrow.engrave(0);
        read(narrow, "AVATAR;A");
        due("the one behind fits", narrow.engraveAll(), 1);
        due("1960 points on 1959", narrow.name(1, 2), 0);
        due("the last one", narrow.name(2, 2), 1);
    }

    @Bound(promise = 12, says = "Returns how many these are")
    static void oneNameOrTwentyAreEngraved() {
        due("one", with("A").engraveAll(), 1);
        due("twenty", withLetters(20).engraveAll(), 20);
        NamePlate plate = withLetters(20);
        plate.engrave(0);
        due("nineteen beside the first one", plate.engraveAll(), 19);
        due("engraved names", plate.count(5), 20);
        NamePlate last = withLetters(20);
        last.engrave(19);
        due("nineteen beside the last one", last.engraveAll(), 19);
    }

    @Bound(promise = 12, says = "Engraves all names that are not engraved and fit.")
    static void namesAreEngravedAtTheSize1() {
        NamePlate plate = with("A;B;C;D;E", 300, 100);
        due("size of five rows on 60 points", plate.size(), 1);
        due("all five", plate.engraveAll(), 5);
        due("size then", plate.size(), 1);
    }

    @Bound(promise = 12, says = "This is one act.")
    static void twentyNamesAreEngravedByOneAct() {
        NamePlate plate = withLetters(20);
        plate.engraveAll();
        due("states", plate.count(10), 2);
        due("undo", plate.undo(), 1);
        due("engraved names", plate.count(5), 0);
    }

    @Bound(promise = 12, says = "NONE if there are none")
    static void thereIsNoNameToEngrave() {
        due("without names", new NamePlate().engraveAll(), NONE);
        due("all are engraved", withEngraved().engraveAll(), NONE);
        due("at the size 0", withoutSize().engraveAll(), NONE);
        NamePlate plate = withEngraved();
        read(plate, SIXTEEN + ";A");
        due("none of the others fits", plate.engraveAll(), NONE);
        due("states", plate.count(10), 3);
    }

    @Bound(promise = 12, in = "ERRORS", says = CHANGES_NOTHING)
    static void engraveAllOfNoneChangesNothing() {
        dueUnchanged("engraveAll at the size 0", BoundsOfEngravingTest::keptWithoutSize, NamePlate::engraveAll, NONE);
        dueUnchanged("engraveAll of the engraved", BoundsOfEngravingTest::allEngraved, NamePlate::engraveAll, NONE);
    }

    private static NamePlate allEngraved() {
        NamePlate plate = withEngraved();
        plate.keep();
        return plate;
    }

    // ---- promise 13: undo

    @Bound(promise = 13, says = "Returns the number of states that are left")
    static void theStatesThatAreLeftGoDownTo0() {
        NamePlate plate = new NamePlate();
        for (int act = 0; act < 9; act++) {
            plate.recut(300 + act, 100);
        }
        for (int left = 4; left >= 0; left--) {
            due("undo", plate.undo(), left);
            due("states", plate.count(10), left);
        }
    }

    @Bound(promise = 13, says = "NONE if the history is empty")
    static void thereIsNothingToUndo() {
        due("on a new plate", new NamePlate().undo(), NONE);
        NamePlate plate = with("A");
        due("one state", plate.undo(), 0);
        due("no state", plate.undo(), NONE);
        due("no state still", plate.undo(), NONE);
        due("a new act", plate.setMargin(0), 20);
        due("one state again", plate.undo(), 0);
        due("margin", plate.count(2), 20);
    }

    @Bound(promise = 13, says = "Removes and restores the latest state of the history.")
    static void whatIsUndoneIsNotKept() {
        NamePlate plate = new NamePlate();
        plate.setMargin(1);
        plate.setMargin(2);
        plate.undo();
        due("an act behind the undo", plate.setMargin(3), 1);
        due("states", plate.count(10), 2);
        plate.undo();
        due("margin before this act", plate.count(2), 1);
        plate.undo();
        due("margin at first", plate.count(2), 20);
    }

    @Bound(promise = 13, in = "ERRORS", says = CHANGES_NOTHING)
    static void undoOfNothingChangesNothing() {
        dueUnchanged("undo of nothing", BoundsOfEngravingTest::withoutHistory, NamePlate::undo, NONE);
    }

    private static NamePlate withoutHistory() {
        NamePlate plate = rich();
        plate.keep();
        for (int back = 3; back >= 0; back--) {
            due("undo", plate.undo(), back);
        }
        return plate;
    }

    // ---- promise 14: keep

    @Bound(promise = 14, says = "Returns the number of names.")
    static void noNameOrTwentyAreKept() {
        due("none", new NamePlate().keep(), 0);
        due("twenty", withLetters(20).keep(), 20);
        due("three, one of which is engraved", rich().keep(), 3);
    }

    @Bound(promise = 14, says = "Takes a snapshot of the state, in place of the one that was.")
    static void theLaterSnapshotIsInPlaceOfTheFirst() {
        NamePlate plate = withSixteenPairs("A;B;C");
        plate.keep();
        plate.adjust('P', 'A', 0);
        plate.remove(2);
        due("keep two", plate.keep(), 2);
        read(plate, "X;Y");
        due("restore two", plate.restore(), 2);
        due("fifteen pairs", plate.count(9), 15);
        due("no 16th pair", plate.pair(15, 0), NONE);
        due("no third name", plate.name(2, 0), UNKNOWN);
    }

    @Bound(promise = 14, says = "Takes a snapshot of the state, in place of the one that was.")
    static void keepIsNoAct() {
        NamePlate plate = new NamePlate();
        plate.keep();
        due("states of a new plate", plate.count(10), 0);
        for (int act = 1; act <= 6; act++) {
            plate.setMargin(act);
            plate.keep();
        }
        due("states", plate.count(10), 5);
        due("undo", plate.undo(), 4);
        due("margin", plate.count(2), 5);
    }

    // ---- promise 15: restore

    @Bound(promise = 15, says = "NONE if there is no snapshot")
    static void thereIsNothingToRestore() {
        due("on a new plate", new NamePlate().restore(), NONE);
        NamePlate plate = with("A");
        due("with a name", plate.restore(), NONE);
        plate.undo();
        due("behind an undo", plate.restore(), NONE);
        plate.keep();
        due("the snapshot of an empty plate is one", plate.restore(), 0);
    }

    @Bound(promise = 15, says = "Restores the state of the snapshot, which stays.")
    static void theSnapshotStaysHoweverOftenItIsRestored() {
        NamePlate plate = with("A;B");
        plate.keep();
        for (int round = 0; round < 7; round++) {
            due("remove", plate.remove(0), 1);
            due("restore", plate.restore(), 2);
            due("the first name", plate.sign(0, 0, 0), 'A');
        }
    }

    @Bound(promise = 15, says = "This is an act.")
    static void restoreIsAnActAlsoWhenNothingIsOther() {
        NamePlate plate = new NamePlate();
        plate.keep();
        for (int act = 1; act <= 7; act++) {
            due("restore", plate.restore(), 0);
            due("states", plate.count(10), Math.min(act, 5));
        }
        plate.setMargin(3);
        plate.restore();
        due("undo of restore", plate.undo(), 4);
        due("margin", plate.count(2), 3);
    }

    @Bound(promise = 15, says = "Returns the number of names then")
    static void noNameOrTwentyAreRestored() {
        NamePlate plate = withLetters(20);
        plate.keep();
        plate.undo();
        due("twenty in place of none", plate.restore(), 20);
        due("the last one", plate.sign(19, 0, 0), 'T');
        plate.undo();
        plate.keep();
        plate.readNames();
        due("none in place of twenty", plate.restore(), 0);
        due("no name", plate.name(0, 0), UNKNOWN);
    }

    @Bound(promise = 15, in = "ERRORS", says = CHANGES_NOTHING)
    static void restoreOfNothingChangesNothing() {
        dueUnchanged("restore of nothing", () -> withLetters(3), NamePlate::restore, NONE);
    }
}
