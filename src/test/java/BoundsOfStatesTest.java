/** The bounds that "ENGRAVING", "HISTORY", "ERRORS" and "What it is" name. */
public final class BoundsOfStatesTest extends Bounds {

    public static void main(String[] args) {
        runAll(BoundsOfStatesTest.class);
    }

    @Bound(promise = 26, in = "What it is", says = "An object is used for at most 512 calls after it has been made")
    static void theLastOf512Calls() {
        NamePlate cut = new NamePlate();
        for (int calls = 1; calls <= 511; calls++) {
            due("recut " + calls, cut.recut(300 + calls, 100), 0);
        }
        due("cut anew, as the 512th call", cut.count(7), 511);
    }

    @Bound(promise = 26, in = "What it is", says = "An object is used for at most 512 calls after it has been made")
    static void asManyNamesAreLostAs512CallsCanLose() {
        NamePlate plate = withLetters(20);
        for (int round = 1; round <= 235; round++) {
            due("engrave all, " + round, plate.engraveAll(), 20);
            due("recut, " + round, plate.recut(2000, 1000), 20);
        }
        due("lost names, as the 512th call", plate.count(8), 20 * 235);
    }

    // ---- ENGRAVING

    @Bound(promise = 16, in = "ENGRAVING", says = "What is engraved is not altered")
    static void whatIsEngravedStaysAsItIs() {
        NamePlate plate = with("AB;C");
        int begin = plate.engrave(0);
        read(plate, SIXTEEN + ";D");
        plate.adjust('B', 'A', 3);
        plate.swap(1, 3);
        plate.remove(2);
        due("begin", plate.name(0, 5), begin);
        due("units", plate.name(0, 1), 3 + 5 + 8);
        due("width", plate.name(0, 8), 16 * 40);
        due("its last sign", plate.sign(0, 1, 5), begin + 8 * 40);
        due("it fits", plate.name(0, 7), 1);
        due("it is engraved", plate.engrave(0), NONE);
    }

    @Bound(promise = 3, in = "ENGRAVING", says = "as long as any name is engraved, margin and columns stay")
    static void theMarginStaysWhileOneNameIsEngraved() {
        NamePlate plate = withLetters(3);
        plate.engrave(2);
        due("one of three is engraved", plate.setMargin(0), NOT_POSSIBLE);
        due("margin then", plate.count(2), 20);
        plate.recut(2000, 1000);
        due("none is engraved any more", plate.setMargin(0), 20);
    }

    @Bound(promise = 4, in = "ENGRAVING", says = "as long as any name is engraved, margin and columns stay")
    static void theColumnsStayWhileOneNameIsEngraved() {
        NamePlate plate = withLetters(3);
        plate.engrave(2);
        due("one of three is engraved", plate.setColumns(2), NOT_POSSIBLE);
        due("columns then", plate.count(3), 1);
        plate.undo();
        due("none is engraved any more", plate.setColumns(2), 1);
    }

    @Bound(promise = 9, in = "ENGRAVING", says = "seats of engraved names stay")
    static void noSeatOfAnEngravedNameIsMovedByRemove() {
        NamePlate plate = withLetters(20);
        plate.engrave(19);
        due("remove the first name", plate.remove(0), NOT_POSSIBLE);
        due("the engraved one is in its seat", plate.sign(19, 0, 0), 'T');
        due("names", plate.count(4), 20);
    }

    @Bound(promise = 10, in = "ENGRAVING", says = "seats of engraved names stay")
    static void noSeatOfAnEngravedNameIsMovedBySwap() {
        NamePlate plate = withLetters(20);
        plate.engrave(0);
        due("swap the first name and the last one", plate.swap(0, 19), NOT_POSSIBLE);
        due("swap the last name and the first one", plate.swap(19, 0), NOT_POSSIBLE);
        due("the engraved one is in its seat", plate.sign(0, 0, 0), 'A');
    }

    @Bound(promise = 5, in = "ENGRAVING", says = "the adjustment of a pair stays if any engraved name has this pair")
    static void thePairsOfAnEngravedNameStayFromItsFirstToItsLast() {
        NamePlate plate = with("X;" + SIXTEEN);
        plate.engrave(1);
        due("the first pair", plate.adjust('A', 'B', 1), NOT_POSSIBLE);
        due("the last pair", plate.adjust('O', 'P', 1), NOT_POSSIBLE);
        due("the first pair turned round", plate.adjust('B', 'A', 1), 0);
        due("the last sign and the first one", plate.adjust('P', 'A', 1), 0);
        due("signs that are not next to each other", plate.adjust('A', 'C', 1), 0);
    }

    @Bound(promise = 5, in = "ENGRAVING", says = "the adjustment of a pair stays if any engraved name has this pair")
    static void anyEngravedNameHoldsItsPairs() {
        NamePlate plate = with("AB;AB;CD;EF");
        due("none is engraved", plate.adjust('A', 'B', 1), 0);
        plate.engrave(0);
        plate.engrave(3);
        due("the first name's pair", plate.adjust('A', 'B', 2), NOT_POSSIBLE);
        due("the last name's pair", plate.adjust('E', 'F', 2), NOT_POSSIBLE);
        due("a pair of no engraved name", plate.adjust('C', 'D', 2), 0);
        due("last sign of a name and first one of the next", plate.adjust('B', 'A', 2), 0);
    }

    @Bound(promise = 5, in = "ENGRAVING", says = "the adjustment of a pair stays if any engraved name has this pair")
    static void signsOfTwoSeatsAreNoPair() {
        NamePlate plate = with(SIXTEEN + ";BA");
        plate.engraveAll();
        due("last sign of a full seat and first one of the next", plate.adjust('P', 'B', 1), 0);
        due("first sign of the next and last one before", plate.adjust('B', 'P', 1), 0);
    }

    @Bound(promise = 5, in = "ENGRAVING", says = "the adjustment of a pair stays if any engraved name has this pair")
    static void signsOfARemovedNameAreNoPair() {
        NamePlate plate = with("ABCD");
        plate.remove(0);
        read(plate, "AB");
        plate.engrave(0);
        due("a pair of the name", plate.adjust('A', 'B', 1), NOT_POSSIBLE);
        due("its last sign, and what was behind it", plate.adjust('B', 'C', 1), 0);
        due("what was behind it", plate.adjust('C', 'D', 1), 0);
    }

    @Bound(promise = 2, in = "ENGRAVING", says = "When the plate is cut anew, no name is engraved any more.")
    static void noNameIsEngravedOnANewPlate() {
        NamePlate plate = withLetters(20);
        plate.engraveAll();
        plate.recut(2000, 1000);
        due("engraved names", plate.count(5), 0);
        due("the first one", plate.name(0, 2), 0);
        due("the last one", plate.name(19, 2), 0);
    }

    // ---- ERRORS

    @Bound(promise = 22, in = "ERRORS", says = "NONE is no error; it is returned only if no error applies.")
    static void noneIsAnsweredOnlyIfNoErrorApplies() {
        NamePlate empty = new NamePlate();
        due("no least width, and a bad size", empty.leastWidth(0), BAD_VALUE);
        due("no least width", empty.leastWidth(1), NONE);
        due("no pair, and a bad number", empty.pair(0, 3), BAD_VALUE);
        due("no pair", empty.pair(0, 2), NONE);
        due("no sign, and a bad point", empty.signAt(0, -1), BAD_VALUE);
        due("no sign", empty.signAt(0, 0), NONE);
        NamePlate plate = withEngraved();
        due("so already, and engraved", plate.setMargin(20), NOT_POSSIBLE);
        due("the same, and engraved", plate.swap(0, 0), NOT_POSSIBLE);
        due("the same, and no seat", plate.swap(1, 1), UNKNOWN);
        due("engraved already, which is no error", plate.engrave(0), NONE);
    }

    @Bound(promise = 5, in = "ERRORS",
            says = "Where several errors can apply, the order of the @return line is the order of the checks.")
    static void theFirstErrorOfTheLineIsAnswered() {
        NamePlate plate = withSixteenPairs("QA;" + FIFTEEN);
        plate.engraveAll();
        due("all four", plate.adjust('q', 'A', 4), UNKNOWN);
        due("the last three", plate.adjust('Q', 'A', 4), BAD_VALUE);
        due("the last two", plate.adjust('Q', 'A', 1), NOT_POSSIBLE);
        due("the last one", plate.adjust('R', 'A', 1), FULL);
    }

    // ---- HISTORY

    @Bound(promise = 13, in = "HISTORY",
            says = "A history of at most 5 states is kept; when one more is recorded, the oldest one is dropped")
    static void theHistoryHasFiveStatesAtMost() {
        NamePlate plate = new NamePlate();
        for (int act = 1; act <= 5; act++) {
            plate.setMargin(act);
            due("states after act " + act, plate.count(10), act);
        }
        plate.setMargin(6);
        due("states after act 6", plate.count(10), 5);
    }

    @Bound(promise = 13, in = "HISTORY",
            says = "A history of at most 5 states is kept; when one more is recorded, the oldest one is dropped")
    static void fiveActsAreUndoneToTheNewObject() {
        NamePlate plate = new NamePlate();
        for (int act = 1; act <= 5; act++) {
            plate.setMargin(act);
        }
        for (int back = 4; back >= 0; back--) {
            due("undo", plate.undo(), back);
            due("margin", plate.count(2), back == 0 ? 20 : back);
        }
        due("undo of nothing", plate.undo(), NONE);
    }

    @Bound(promise = 13, in = "HISTORY",
            says = "A history of at most 5 states is kept; when one more is recorded, the oldest one is dropped")
    static void theOldestStateIsDroppedForTheSixth() {
        NamePlate plate = new NamePlate();
        for (int act = 1; act <= 6; act++) {
            plate.setMargin(act);
        }
        for (int back = 5; back >= 1; back--) {
            due("undo", plate.undo(), back - 1);
            due("margin", plate.count(2), back);
        }
        due("the state of the new object is dropped", plate.undo(), NONE);
        due("margin stays", plate.count(2), 1);
    }

    @Bound(promise = 13, in = "HISTORY", says = "undo() removes and restores the latest one")
    static void undoIsDueAfterManyActsAndUndosToo() {
        NamePlate plate = new NamePlate();
        for (int round = 0; round < 13; round++) {
            for (int act = 0; act < 7; act++) {
                plate.setMargin(round % 2 * 50 + act);
            }
            for (int back = 6; back > 6 - 1 - round % 5; back--) {
                due("undo in round " + round, plate.undo(), back - 2);
                due("margin in round " + round, plate.count(2), round % 2 * 50 + back - 1);
            }
        }
    }

    @Bound(promise = 13, in = "HISTORY",
            says = "Each call of a method that is described as an act, and returns no error and not NONE, records the state")
    static void eachActRecordsOneState() {
        NamePlate plate = new NamePlate();
        plate.keep();
        Plates.text(plate, "AB;C;D");
        dueStates("readNames", plate, plate.readNames(), 1);
        dueStates("recut", plate, plate.recut(2000, 1000), 2);
        dueStates("setMargin", plate, plate.setMargin(10), 3);
        dueStates("setColumns", plate, plate.setColumns(2), 4);
        dueStates("adjust", plate, plate.adjust('A', 'B', 1), 5);
        plate.undo();
        plate.undo();
        plate.undo();
        dueStates("remove", plate, plate.remove(2), 3);
        dueStates("swap", plate, plate.swap(0, 1), 4);
        dueStates("engrave", plate, plate.engrave(0), 5);
        plate.undo();
        plate.undo();
        dueStates("engraveAll", plate, plate.engraveAll(), 4);
        dueStates("restore", plate, plate.restore(), 5);
    }

    private static void dueStates(String act, NamePlate plate, int answer, int states) {
        Check.holds(act + " answers " + answer, answer >= 0);
        due("states after " + act, plate.count(10), states);
    }

    @Bound(promise = 13, in = "HISTORY",
            says = "Each call of a method that is described as an act, and returns no error and not NONE, records the state")
    static void whatIsNoActRecordsNoState() {
        NamePlate plate = with("AB;C");
        plate.type('A');
        due("after type", plate.count(10), 1);
        plate.clearText();
        due("after clearText", plate.count(10), 1);
        plate.keep();
        due("after keep", plate.count(10), 1);
        plate.undo();
        due("after undo", plate.count(10), 0);
    }

    @Bound(promise = 13, in = "HISTORY",
            says = "Each call of a method that is described as an act, and returns no error and not NONE, records the state")
    static void anActThatAnswersBelowZeroIsRecorded() {
        NamePlate plate = new NamePlate();
        plate.adjust('A', 'B', -3);
        due("the previous adjustment, which is no error", plate.adjust('A', 'B', 3), -3);
        due("both are recorded", plate.count(10), 2);
    }

    @Bound(promise = 15, in = "HISTORY", says = "There is one snapshot, empty at first.")
    static void thereIsNoSnapshotAtFirst() {
        NamePlate plate = with("A");
        due("restore at first", plate.restore(), NONE);
        due("names stay", plate.count(4), 1);
    }

    @Bound(promise = 15, in = "HISTORY", says = "There is one snapshot, empty at first.")
    static void thereIsOneSnapshotAlone() {
        NamePlate plate = with("A");
        plate.keep();
        read(plate, "B;C");
        plate.keep();
        due("restore", plate.restore(), 3);
        due("restore again", plate.restore(), 3);
    }

    @Bound(promise = 13, in = "HISTORY", says = "A state is everything but the text, the history and the snapshot.")
    static void undoLeavesTheTextAndTheSnapshot() {
        NamePlate plate = with("A");
        plate.keep();
        plate.type('B');
        due("undo", plate.undo(), 0);
        due("the text stays", plate.count(11), 2);
        due("it can be read", plate.readNames(), 1);
        due("as it is now", plate.name(0, 0), 2);
        plate.undo();
        due("the snapshot stays", plate.restore(), 1);
    }

    @Bound(promise = 15, in = "HISTORY", says = "A state is everything but the text, the history and the snapshot.")
    static void restoreLeavesTheTextAndTheHistory() {
        NamePlate plate = new NamePlate();
        plate.keep();
        read(plate, "AB");
        plate.setMargin(7);
        due("restore", plate.restore(), 0);
        due("the text stays", plate.count(11), 2);
        due("the history goes on", plate.count(10), 3);
        due("undo", plate.undo(), 2);
        due("margin", plate.count(2), 7);
    }

    @Bound(promise = 13, in = "HISTORY", says = "A state is everything but the text, the history and the snapshot.")
    static void undoBringsBackAllNumbersOfThePlate() {
        NamePlate plate = with("A;XY");
        plate.engraveAll();
        plate.recut(700, 800);
        plate.setMargin(11);
        plate.setColumns(3);
        plate.engrave(0);
        plate.recut(900, 300);
        plate.setMargin(5);
        plate.setColumns(2);
        plate.undo();
        plate.undo();
        plate.undo();
        due("undo", plate.undo(), 1);
        int[] counts = {700, 800, 11, 3, 2, 0, 1, 1, 2, 0, 1, 4};
        for (int what = 0; what < counts.length; what++) {
            due("count(" + what + ")", plate.count(what), counts[what]);
        }
    }

    @Bound(promise = 13, in = "HISTORY", says = "A state is everything but the text, the history and the snapshot.")
    static void undoBringsBackAllNamesAndPairs() {
        NamePlate plate = withSixteenPairs("A;XY");
        plate.adjust('A', 'A', 0);
        plate.adjust('Q', 'R', 3);
        plate.remove(0);
        plate.readNames();
        plate.swap(1, 2);
        Plates.dueNames("then", plate, "XY", "XY", "A");
        int[] pairs = {16, 15, 16, 16, 16};
        for (int left = 4; left >= 0; left--) {
            due("undo", plate.undo(), left);
            due("pairs with so many states left: " + left, plate.count(9), pairs[left]);
        }
        Plates.dueNames("undone", plate, "A", "XY");
        for (int place = 0; place < 16; place++) {
            due("left of " + place, plate.pair(place, 0), 'A' + place);
            due("right of " + place, plate.pair(place, 1), 'A');
            due("adjustment of " + place, plate.pair(place, 2), 1);
        }
    }

    @Bound(promise = 13, in = "HISTORY", says = "A state is everything but the text, the history and the snapshot.")
    static void undoBringsBackWhatIsEngravedAndItsSize() {
        NamePlate plate = with("A;XY", 700, 232);
        due("engrave at 8, two rows on 192 points", plate.engraveAll(), 2);
        plate.recut(2000, 1000);
        plate.engrave(0);
        due("size then", plate.size(), 40);
        plate.undo();
        due("undo", plate.undo(), 3);
        due("size", plate.size(), 8);
        due("engraved names", plate.count(5), 2);
        due("margin is bound again", plate.setMargin(0), NOT_POSSIBLE);
    }
}
