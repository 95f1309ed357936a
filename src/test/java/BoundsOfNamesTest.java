/** The bounds that promises 6 to 10 name: type, clearText, readNames, remove, swap. */
public final class BoundsOfNamesTest extends Bounds {

    public static void main(String[] args) {
        runAll(BoundsOfNamesTest.class);
    }

    // ---- promise 6: type

    @Bound(promise = 6, says = "`character`: any character")
    static void anyCharacterIsTyped() {
        int[] codes = {0, 1, ';', 'A', 127, 128, 255, 256, 32768, 65535};
        NamePlate plate = new NamePlate();
        for (int at = 0; at < codes.length; at++) {
            due("type " + codes[at], plate.type((char) codes[at]), at + 1);
        }
        due("the first one is a fault", plate.readNames(), -100);
    }

    @Bound(promise = 6, says = "Returns the length of the text then")
    static void theLengthGoesFrom1To60() {
        NamePlate plate = new NamePlate();
        for (int length = 1; length <= 60; length++) {
            due("type the character " + length, plate.type('A'), length);
        }
    }

    @Bound(promise = 6, says = "FULL if it has 60 characters")
    static void theTextIsFullWith60Characters() {
        NamePlate plate = new NamePlate();
        Plates.text(plate, "A".repeat(59));
        due("the 60th", plate.type('A'), 60);
        due("the 61st", plate.type('A'), FULL);
        due("the 62nd", plate.type((char) 65535), FULL);
        plate.clearText();
        due("when it is empty again", plate.type('A'), 1);
    }

    @Bound(promise = 6, in = "ERRORS", says = CHANGES_NOTHING)
    static void aRefusedTypeChangesNothing() {
        dueUnchanged("type the 61st", BoundsOfNamesTest::withFullText, plate -> plate.type('?'), FULL);
    }

    private static NamePlate withFullText() {
        NamePlate plate = rich();
        Plates.text(plate, "A.A-A.A-A.A-A-A;".repeat(3) + "B.B-B.B-B-BB");
        due("length of the text", plate.count(11), 60);
        return plate;
    }

    // ---- promise 7: clearText

    @Bound(promise = 7, says = "Returns the length that it had.")
    static void anEmptyAndAFullTextAreCleared() {
        NamePlate plate = new NamePlate();
        due("the empty text", plate.clearText(), 0);
        plate.type('A');
        due("one character", plate.clearText(), 1);
        due("the emptied text", plate.clearText(), 0);
        Plates.text(plate, "A".repeat(60));
        due("the full text", plate.clearText(), 60);
        due("length then", plate.count(11), 0);
    }

    @Bound(promise = 7, says = "Empties the text.")
    static void nothingOfTheOldTextIsBehindTheNewOne() {
        NamePlate plate = new NamePlate();
        Plates.text(plate, "A;B;?");
        plate.clearText();
        plate.type('C');
        due("read one character", plate.readNames(), 1);
        due("it is the name", plate.sign(0, 0, 0), 'C');
        due("and alone", plate.name(0, 0), 1);
    }

    // ---- promise 8: readNames

    @Bound(promise = 8, says = "Adds the names of the text, which stays, in the next seats")
    static void theTextStaysWhenItIsRead() {
        NamePlate plate = with("A.B;C");
        due("length then", plate.count(11), 5);
        due("read again", plate.readNames(), 2);
        due("length after both", plate.count(11), 5);
    }

    @Bound(promise = 8, says = "Adds the names of the text, which stays, in the next seats")
    static void theNextSeatsAreBehindTheLastName() {
        NamePlate plate = with("A");
        read(plate, "BC;D.E");
        Plates.dueNames("behind the first", plate, "A", "BC", "D.E");
        plate.remove(2);
        read(plate, "F");
        Plates.dueNames("behind the removed one", plate, "A", "BC", "F");
    }

    @Bound(promise = 8, says = "all of them, or none")
    static void allNamesAreAddedOrNone() {
        NamePlate plate = withLetters(18);
        due("three on 18", read(plate, "X;Y;Z"), FULL);
        due("none is added", plate.count(4), 18);
        due("a fault in the last name", read(plate, "X;Y."), -104);
        due("none is added then", plate.count(4), 18);
        due("two on 18", read(plate, "X;Y"), 2);
        due("both are added", plate.count(4), 20);
    }

    @Bound(promise = 8, says = "This is one act.")
    static void manyNamesAreOneAct() {
        NamePlate plate = withLetters(20);
        due("states", plate.count(10), 1);
        due("undo", plate.undo(), 0);
        due("names", plate.count(4), 0);
    }

    @Bound(promise = 8, says = "Returns how many there are")
    static void oneNameOrTwentyAreRead() {
        due("one", reading("A"), 1);
        due("twenty", reading("A" + ";A".repeat(19)), 20);
        due("nineteen", reading("A" + ";A".repeat(18)), 19);
        due("one behind nineteen, of the text alone", read(withLetters(19), "A"), 1);
    }

    @Bound(promise = 8, says = "-100 minus the fault of the text if it has one (which is an error)")
    static void theLeastAndTheGreatestFault() {
        due("fault 0", reading("?"), -100);
        due("fault 1", reading("A?"), -101);
        due("fault 59", reading("A;".repeat(29) + "A?"), -159);
        due("fault 60", reading("A;".repeat(30)), -160);
    }

    @Bound(promise = 8, says = "FULL if there would be more than 20 names")
    static void thereIsNoRoomForThe21stName() {
        due("21 at once", reading("A" + ";A".repeat(20)), FULL);
        due("30 at once", reading("A" + ";A".repeat(29)), FULL);
        due("one on 20", read(withLetters(20), "A"), FULL);
        due("two on 19", read(withLetters(19), "A;A"), FULL);
        due("one on 19", read(withLetters(19), "A"), 1);
        due("twenty at once", reading("A" + ";A".repeat(19)), 20);
    }

    @Bound(promise = 8, says = "Returns how many there are; -100 minus the fault of the text if it has one "
            + "(which is an error); FULL if there would be more than 20 names.")
    static void theFaultComesBeforeFull() {
        due("a fault and one too many", read(withLetters(20), "A?"), -101);
        due("an empty text on 20", read(withLetters(20), ""), -100);
        due("a fault behind 21 names", reading("A" + ";A".repeat(20) + ";"), -142);
    }

    @Bound(promise = 8, in = "ERRORS", says = CHANGES_NOTHING)
    static void aRefusedReadNamesChangesNothing() {
        dueUnchanged("readNames of a fault", BoundsOfNamesTest::withFault, NamePlate::readNames, -103);
        dueUnchanged("readNames of 21", BoundsOfNamesTest::withTwenty, NamePlate::readNames, FULL);
    }

    private static NamePlate withFault() {
        NamePlate plate = rich();
        Plates.text(plate, "A;B?");
        return plate;
    }

    private static NamePlate withTwenty() {
        NamePlate plate = withLetters(19);
        plate.setColumns(2);
        plate.keep();
        due("the 20th", read(plate, "Z"), 1);
        return plate;
    }

    // ---- promise 9: remove

    @Bound(promise = 9, says = "`seat`: a seat that is taken")
    static void theFirstAndTheLastSeatAreRemoved() {
        due("the first of 20", withLetters(20).remove(0), 19);
        due("the last of 20", withLetters(20).remove(19), 19);
        NamePlate plate = with("A;B");
        dueRefused("remove", 0, 1, UNKNOWN, plate::remove);
        due("names then", plate.count(4), 2);
        due("the seat behind the last of 20", withLetters(20).remove(20), UNKNOWN);
        due("a seat of a plate without names", new NamePlate().remove(0), UNKNOWN);
    }

    @Bound(promise = 9, says = "those behind it come one seat earlier")
    static void theNamesBehindComeOneSeatEarlier() {
        NamePlate plate = with("A;" + SIXTEEN + ";C.C;D");
        plate.remove(0);
        Plates.dueNames("without the first", plate, SIXTEEN, "C.C", "D");
        plate.remove(2);
        Plates.dueNames("without the last", plate, SIXTEEN, "C.C");
        plate.remove(0);
        Plates.dueNames("without the long one", plate, "C.C");
        NamePlate twenty = withLetters(20);
        twenty.remove(0);
        due("the 20th name is in the seat 18", twenty.sign(18, 0, 0), 'T');
        due("the seat 19 is free", twenty.name(19, 0), UNKNOWN);
    }

    @Bound(promise = 9, says = "Returns the number of names then")
    static void theNumberOfNamesGoesDownTo0() {
        NamePlate plate = withLetters(20);
        for (int left = 19; left >= 0; left--) {
            due("remove", plate.remove(left / 2), left);
        }
        due("names", plate.count(4), 0);
        due("one more", plate.remove(0), UNKNOWN);
    }

    @Bound(promise = 9, says = "NOT_POSSIBLE if it, or any name behind it, is engraved")
    static void noNameIsRemovedBeforeAnEngravedOne() {
        NamePlate plate = withLetters(20);
        plate.engrave(10);
        due("the engraved one", plate.remove(10), NOT_POSSIBLE);
        due("the one before it", plate.remove(9), NOT_POSSIBLE);
        due("the first one", plate.remove(0), NOT_POSSIBLE);
        due("the one behind it", plate.remove(11), 19);
        plate.engrave(18);
        due("all before the last one", plate.remove(11), NOT_POSSIBLE);
        due("the last one", plate.remove(18), NOT_POSSIBLE);
    }

    @Bound(promise = 9, says = "Returns the number of names then; UNKNOWN; NOT_POSSIBLE")
    static void anUnknownSeatComesBeforeAnEngravedOne() {
        NamePlate plate = withEngraved();
        dueRefused("remove with the name 0 engraved", 0, 0, UNKNOWN, plate::remove);
    }

    @Bound(promise = 9, in = "ERRORS", says = CHANGES_NOTHING)
    static void aRefusedRemoveChangesNothing() {
        dueUnchanged("remove(-1)", Bounds::rich, plate -> plate.remove(-1), UNKNOWN);
        dueUnchanged("remove(3)", Bounds::rich, plate -> plate.remove(3), UNKNOWN);
        dueUnchanged("remove(0)", Bounds::rich, plate -> plate.remove(0), NOT_POSSIBLE);
    }

    // ---- promise 10: swap

    @Bound(promise = 10, says = "`seat`: a seat that is taken")
    static void theSeatThatIsSwapped() {
        NamePlate plate = with("A;B;C");
        due("the first one", plate.swap(0, 1), 26);
        due("the last one", plate.swap(2, 1), 26);
        Plates.dueNames("swapped", plate, "B", "C", "A");
        dueRefused("swap", 0, 2, UNKNOWN, seat -> plate.swap(seat, 1));
        due("the seat behind the last of 20", withLetters(20).swap(20, 0), UNKNOWN);
    }

    @Bound(promise = 10, says = "`other`: a seat that is taken")
    static void theOtherSeatThatIsSwapped() {
        NamePlate plate = with("A;B;C");
        due("the first one", plate.swap(1, 0), 26);
        due("the last one", plate.swap(1, 2), 26);
        Plates.dueNames("swapped", plate, "B", "C", "A");
        dueRefused("swap with", 0, 2, UNKNOWN, other -> plate.swap(1, other));
        due("the seat behind the last of 20", withLetters(20).swap(0, 20), UNKNOWN);
    }

    @Bound(promise = 10, says = "Exchanges the names of two seats.")
    static void theFirstAndTheLastOfTwentyAreExchanged() {
        NamePlate plate = withLetters(19);
        read(plate, SIXTEEN);
        plate.swap(0, 19);
        due("signs of the first", plate.name(0, 0), 16);
        due("its last sign", plate.sign(0, 15, 0), 'P');
        due("signs of the last", plate.name(19, 0), 1);
        due("its sign", plate.sign(19, 0, 0), 'A');
        due("a sign behind it", plate.sign(19, 1, 0), UNKNOWN);
    }

    @Bound(promise = 10, says = "Returns the size then")
    static void theSizeThatSwapAnswersCanBe0() {
        NamePlate plate = withoutSize();
        read(plate, "A");
        due("states", plate.count(10), 4);
        due("swap at the size 0", plate.swap(0, 1), 0);
        due("it is an act", plate.count(10), 5);
        Plates.dueNames("swapped at the size 0", plate, "A", MIXED);
    }

    @Bound(promise = 10, says = "Returns the size then")
    static void theSizeThatSwapAnswersIsThatOfTheEngraved() {
        NamePlate plate = withEngraved();
        read(plate, SIXTEEN + ";B");
        due("swap two that are not engraved", plate.swap(1, 2), 40);
    }

    @Bound(promise = 10, says = "NOT_POSSIBLE if any of both is engraved")
    static void noEngravedNameIsSwapped() {
        NamePlate plate = with("A;B;C");
        plate.engrave(1);
        due("the first of both", plate.swap(1, 0), NOT_POSSIBLE);
        due("the second of both", plate.swap(2, 1), NOT_POSSIBLE);
        due("none of both", plate.swap(0, 2), 26);
        plate.engrave(2);
        due("both", plate.swap(1, 2), NOT_POSSIBLE);
    }

    @Bound(promise = 10, says = "NONE if both are the same")
    static void aNameIsNotSwappedWithItself() {
        NamePlate plate = withLetters(20);
        due("the first one", plate.swap(0, 0), NONE);
        due("the last one", plate.swap(19, 19), NONE);
        due("states", plate.count(10), 1);
    }

    @Bound(promise = 10,
            says = "Returns the size then; UNKNOWN; NOT_POSSIBLE if any of both is engraved; NONE if both are the same.")
    static void theOrderOfTheErrorsOfSwap() {
        NamePlate plate = withEngraved();
        due("an engraved one and no seat", plate.swap(0, 1), UNKNOWN);
        due("no seat and an engraved one", plate.swap(-1, 0), UNKNOWN);
        due("no seat twice", plate.swap(1, 1), UNKNOWN);
        due("no seat below 0 twice", plate.swap(-1, -1), UNKNOWN);
        due("an engraved one with itself", plate.swap(0, 0), NOT_POSSIBLE);
    }

    @Bound(promise = 10, in = "ERRORS", says = CHANGES_NOTHING)
    static void aRefusedSwapChangesNothing() {
        dueUnchanged("swap(3, 1)", Bounds::rich, plate -> plate.swap(3, 1), UNKNOWN);
        dueUnchanged("swap(1, -1)", Bounds::rich, plate -> plate.swap(1, -1), UNKNOWN);
        dueUnchanged("swap(0, 1)", Bounds::rich, plate -> plate.swap(0, 1), NOT_POSSIBLE);
        dueUnchanged("swap(2, 2)", Bounds::rich, plate -> plate.swap(2, 2), NONE);
    }
}
