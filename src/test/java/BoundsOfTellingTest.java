/** The bounds that promises 16 to 20 name: name, sign, signAt, size, sizeBy. */
public final class BoundsOfTellingTest extends Bounds {

    public static void main(String[] args) {
        runAll(BoundsOfTellingTest.class);
    }

    // ---- promise 16: name

    @Bound(promise = 16, says = "`seat`: a seat that is taken")
    static void theFirstAndTheLastSeatAreTold() {
        NamePlate plate = with("ABC;D;EF");
        due("the first one", plate.name(0, 0), 3);
        due("the last one", plate.name(2, 0), 2);
        dueRefused("name of", 0, 2, UNKNOWN, seat -> plate.name(seat, 0));
        due("the last one of 20", withLetters(20).name(19, 3), 19);
        due("the one behind 20", withLetters(20).name(20, 3), UNKNOWN);
        due("without names", new NamePlate().name(0, 0), UNKNOWN);
        plate.remove(2);
        due("the one that was removed", plate.name(2, 0), UNKNOWN);
    }

    @Bound(promise = 16, says = "`what`: 0 for the number of its signs")
    static void theFirstAndTheLastNumberOfAName() {
        NamePlate plate = with(MIXED);
        due("what 0", plate.name(0, 0), 5);
        due("what 10", plate.name(0, 10), 9);
        dueRefused("name(0, what)", 0, 10, BAD_VALUE, what -> plate.name(0, what));
    }

    @Bound(promise = 16, says = "0 for the number of its signs, 1 for its units")
    static void theNumbersOfTheShortestAndTheLongestName() {
        NamePlate plate = with("A;" + SIXTEEN);
        due("signs of A", plate.name(0, 0), 1);
        due("units of A", plate.name(0, 1), 3);
        due("ink of A", plate.name(0, 10), 1);
        due("signs of 16", plate.name(1, 0), 16);
        due("units of 16", plate.name(1, 1), 155);
        due("ink of 16", plate.name(1, 10), 46);
    }

    @Bound(promise = 16, says = "2 for whether it is engraved (1, otherwise 0)")
    static void oneOfTwentyIsEngraved() {
        NamePlate plate = withLetters(20);
        plate.engrave(19);
        for (int seat = 0; seat < 20; seat++) {
            due("seat " + seat, plate.name(seat, 2), seat == 19 ? 1 : 0);
        }
        plate.undo();
        plate.engrave(0);
        for (int seat = 0; seat < 20; seat++) {
            due("seat " + seat + " with the first one engraved", plate.name(seat, 2), seat == 0 ? 1 : 0);
        }
    }

    @Bound(promise = 16, says = "5 for where it begins (or would begin, if it is not engraved)")
    static void aNameIsToldWhereItWouldBegin() {
        NamePlate plate = with("A");
        due("before it is engraved", plate.name(0, 5), 940);
        due("where it is engraved", plate.engrave(0), 940);
        due("then", plate.name(0, 5), 940);
    }

    @Bound(promise = 16, says = "7 for whether it fits at the size (1; 0 if not, or the size is 0)")
    static void aNameFitsOrNot() {
        NamePlate plate = withEngraved();
        read(plate, "AVATAR;A;" + SIXTEEN);
        due("the engraved one", plate.name(0, 7), 1);
        due("as wide and as high as there is room", plate.name(1, 7), 1);
        due("a row too low", plate.name(2, 7), 0);
        due("too wide and too low", plate.name(3, 7), 0);
        due("at the size 0", withoutSize().name(0, 7), 0);
    }

    @Bound(promise = 16,
            says = "set in the middle of its column by its width (rounded down; not to the left of the column)")
    static void theMiddleIsRoundedDownAndNotToTheLeft() {
        due("129 points in 259", middleOf("AD", 299 + 40), 20 + 19);
        due("260 points in 261", middleOf("AD", 261 + 40), 20);
        due("260 points in 262", middleOf("AD", 262 + 40), 21);
        due("260 points in 263", middleOf("AD", 263 + 40), 21);
        NamePlate plate = with("A");
        plate.setColumns(2);
        plate.engrave(0);
        read(plate, SIXTEEN + ";AVATAR");
        due("6200 points in the second column of 980", plate.name(1, 9), 1000);
        due("1960 points in the first column of 980", plate.name(2, 9), 20);
    }

    /** A name of 13 units at the size 20, 260 points. */
    private static int middleOf(String name, int width) {
        NamePlate plate = with(name, width, 280);
        due("width", plate.name(0, 8), 260);
        return plate.name(0, 9);
    }

    @Bound(promise = 16, says = "NONE (5, 6, 8 and 9) if the size is 0")
    static void fourNumbersAreNoneAtTheSize0() {
        NamePlate plate = withoutSize();
        int[] due = {5, 35, 0, 0, 0, NONE, NONE, 0, NONE, NONE, 9};
        for (int what = 0; what <= 10; what++) {
            due("name(0, " + what + ") at the size 0", plate.name(0, what), due[what]);
        }
    }

    @Bound(promise = 16, says = "NONE (5, 6, 8 and 9) if the size is 0")
    static void allNumbersAreToldAtTheSize1() {
        NamePlate plate = with(SIXTEEN, 300, 100);
        due("size", plate.size(), 1);
        due("begin by the width", plate.name(0, 9), 20 + (260 - 155) / 2);
        due("begin of the row", plate.name(0, 6), 20);
        due("it fits", plate.name(0, 7), 1);
        due("width", plate.name(0, 8), 155);
        Check.holds("it begins in the column", plate.name(0, 5) >= 20 && plate.name(0, 5) <= 280 - 155);
        due("its first sign begins there", plate.sign(0, 0, 5), plate.name(0, 5));
    }

    @Bound(promise = 16, says = "Returns the number; UNKNOWN; BAD_VALUE; NONE (5, 6, 8 and 9) if the size is 0.")
    static void theOrderOfTheErrorsOfName() {
        due("no seat and no number", with("A").name(1, 11), UNKNOWN);
        due("no seat and no number, below 0", with("A").name(-1, -1), UNKNOWN);
        due("no number at the size 0", withoutSize().name(0, 11), BAD_VALUE);
        due("no number below 0 at the size 0", withoutSize().name(0, -1), BAD_VALUE);
        due("no seat at the size 0", withoutSize().name(1, 5), UNKNOWN);
    }

    @Bound(promise = 16, in = "ERRORS", says = CHANGES_NOTHING)
    static void aRefusedNameChangesNothing() {
        dueUnchanged("name(3, 0)", Bounds::rich, plate -> plate.name(3, 0), UNKNOWN);
        dueUnchanged("name(0, 11)", Bounds::rich, plate -> plate.name(0, 11), BAD_VALUE);
        dueUnchanged("name(0, 5)", BoundsOfTellingTest::keptWithoutSize, plate -> plate.name(0, 5), NONE);
    }

    private static NamePlate keptWithoutSize() {
        NamePlate plate = withoutSize();
        plate.keep();
        return plate;
    }

    // ---- promise 17: sign

    @Bound(promise = 17, says = "`seat`: a seat that is taken")
    static void signsOfTheFirstAndTheLastSeat() {
        NamePlate plate = with("A;B;C");
        due("the first one", plate.sign(0, 0, 0), 'A');
        due("the last one", plate.sign(2, 0, 0), 'C');
        dueRefused("sign of the seat", 0, 2, UNKNOWN, seat -> plate.sign(seat, 0, 0));
        due("the last one of 20", withLetters(20).sign(19, 0, 0), 'T');
        due("the one behind 20", withLetters(20).sign(20, 0, 0), UNKNOWN);
        due("without names", new NamePlate().sign(0, 0, 0), UNKNOWN);
        plate.remove(2);
        due("the one that was removed", plate.sign(2, 0, 0), UNKNOWN);
    }

    @Bound(promise = 17, says = "`index`: an index in its name, from 0")
    static void theFirstAndTheLastSignOfAName() {
        NamePlate plate = with("AB;" + SIXTEEN + ";C");
        due("the first one of two", plate.sign(0, 0, 0), 'A');
        due("the last one of two", plate.sign(0, 1, 0), 'B');
        dueRefused("sign of two", 0, 1, UNKNOWN, index -> plate.sign(0, index, 0));
        due("the last one of 16", plate.sign(1, 15, 0), 'P');
        dueRefused("sign of 16", 0, 15, UNKNOWN, index -> plate.sign(1, index, 0));
        dueRefused("sign of one", 0, 0, UNKNOWN, index -> plate.sign(2, index, 0));
    }

    @Bound(promise = 17, says = "`what`: 0 for the code of the sign")
    static void theFirstAndTheLastNumberOfASign() {
        NamePlate plate = with(MIXED);
        due("what 0", plate.sign(0, 0, 0), 'A');
        due("what 5", plate.sign(0, 0, 5), 240);
        dueRefused("sign(0, 0, what)", 0, 5, BAD_VALUE, what -> plate.sign(0, 0, what));
    }

    @Bound(promise = 17, says = "1 for the units from the beginning of the name to it")
    static void unitsBeforeTheFirstAndTheLastSign() {
        NamePlate plate = with(SIXTEEN);
        due("before the first one", plate.sign(0, 0, 1), 0);
        due("before the second one", plate.sign(0, 1, 1), 3 + 5);
        due("before the last one, which has 8", plate.sign(0, 15, 1), 155 - 8);
        due("the last one", plate.sign(0, 15, 2), 8);
    }

    @Bound(promise = 17, says = "(3 and 4: NONE for the last sign)")
    static void noSpaceIsBehindTheLastSign() {
        NamePlate plate = with("AA;A;" + SIXTEEN);
        due("space behind the first one", plate.sign(0, 0, 3), 6);
        due("measure behind the first one", plate.sign(0, 0, 4), 6);
        due("space behind the last one", plate.sign(0, 1, 3), NONE);
        due("measure behind the last one", plate.sign(0, 1, 4), NONE);
        due("space behind the only one", plate.sign(1, 0, 3), NONE);
        due("measure behind the only one", plate.sign(1, 0, 4), NONE);
        due("space behind the 15th", plate.sign(2, 14, 3), 6 - 2);
        due("space behind the 16th", plate.sign(2, 15, 3), NONE);
        due("measure behind the 16th", plate.sign(2, 15, 4), NONE);
        due("the last one has its other numbers", plate.sign(0, 1, 1), 9);
    }

    @Bound(promise = 17, says = "5 for where it begins on the plate (NONE if the size is 0)")
    static void noSignBeginsAtTheSize0() {
        NamePlate plate = withoutSize();
        due("the first one", plate.sign(0, 0, 5), NONE);
        due("the last one", plate.sign(0, 4, 5), NONE);
        int[] due = {'.', 7, 2, 2, 6};
        for (int what = 0; what < 5; what++) {
            due("sign(0, 1, " + what + ") at the size 0", plate.sign(0, 1, what), due[what]);
        }
    }

    @Bound(promise = 17, says = "5 for where it begins on the plate (NONE if the size is 0)")
    static void aSignBeginsAtTheSize1() {
        NamePlate plate = with("DD", 300, 100);
        plate.setMargin(44);
        due("size of a row on 12 points", plate.size(), 1);
        due("14 units on 212 points", plate.sign(0, 0, 5), 44 + 99);
        due("its second sign", plate.sign(0, 1, 5), 44 + 99 + 10);
    }

    @Bound(promise = 17, says = "5 for where it begins on the plate")
    static void theFirstSignBeginsWithTheNameAndTheLastOneEndsWithIt() {
        NamePlate plate = with(MIXED, 350, 3000);
        plate.setMargin(0);
        due("the first one", plate.sign(0, 0, 5), 0);
        due("the last one, of 90 points", plate.sign(0, 4, 5), 350 - 90);
    }

    @Bound(promise = 17, says = "Returns the number; UNKNOWN (seat or index); BAD_VALUE.")
    static void theOrderOfTheErrorsOfSign() {
        NamePlate plate = with("AB");
        due("no seat and no number", plate.sign(1, 0, 6), UNKNOWN);
        due("no index and no number", plate.sign(0, 2, 6), UNKNOWN);
        due("no index and no number, below 0", plate.sign(0, -1, -1), UNKNOWN);
        due("no number of the last sign", plate.sign(0, 1, 6), BAD_VALUE);
        due("no number below 0 of the last sign", plate.sign(0, 1, -1), BAD_VALUE);
        due("no number at the size 0", withoutSize().sign(0, 0, 6), BAD_VALUE);
        due("no index at the size 0", withoutSize().sign(0, 5, 5), UNKNOWN);
        due("no space behind no sign", plate.sign(0, 2, 3), UNKNOWN);
    }

    @Bound(promise = 17, in = "ERRORS", says = CHANGES_NOTHING)
    static void aRefusedSignChangesNothing() {
        dueUnchanged("sign(0, 2, 0)", Bounds::rich, plate -> plate.sign(0, 2, 0), UNKNOWN);
        dueUnchanged("sign(0, 0, 6)", Bounds::rich, plate -> plate.sign(0, 0, 6), BAD_VALUE);
        dueUnchanged("sign(0, 1, 3)", Bounds::rich, plate -> plate.sign(0, 1, 3), NONE);
    }

    // ---- promise 18: signAt

    /** "A.C-E" from 0 to 349 at the size 10: A to 29, "." from 70 to 89, .. E from 260; the row is from 0 to 119. */
    private static NamePlate fromEdgeToEdge() {
        NamePlate plate = with(MIXED, 350, 3000);
        plate.setMargin(0);
        due("size", plate.size(), 10);
        return plate;
    }

    @Bound(promise = 18, says = "`x`: 0 or more")
    static void theFirstColumnOfPoints() {
        NamePlate plate = fromEdgeToEdge();
        due("x of 0", plate.signAt(0, 0), 0);
        due("x of -1", plate.signAt(-1, 0), BAD_VALUE);
        due("the least x", plate.signAt(LEAST_INT, 0), BAD_VALUE);
        due("the greatest x", plate.signAt(GREATEST_INT, 0), NONE);
    }

    @Bound(promise = 18, says = "`y`: 0 or more")
    static void theFirstRowOfPoints() {
        NamePlate plate = fromEdgeToEdge();
        due("y of 0", plate.signAt(29, 0), 0);
        due("y of -1", plate.signAt(29, -1), BAD_VALUE);
        due("the least y", plate.signAt(0, LEAST_INT), BAD_VALUE);
        due("the greatest y", plate.signAt(0, GREATEST_INT), NONE);
    }

    @Bound(promise = 18, says = "it has the points from where it begins to where it ends (this one not)")
    static void aSignHasItsFirstPointAndNotItsEnd() {
        NamePlate plate = fromEdgeToEdge();
        int[] begins = {0, 70, 110, 190, 260};
        int[] ends = {30, 90, 170, 230, 350};
        for (int index = 0; index < 5; index++) {
            due("first point of " + index, plate.signAt(begins[index], 50), index);
            due("last point of " + index, plate.signAt(ends[index] - 1, 50), index);
            due("end of " + index, plate.signAt(ends[index], 50), NONE);
            if (index > 0) {
                due("before " + index, plate.signAt(begins[index] - 1, 50), NONE);
            }
        }
    }

    @Bound(promise = 18, says = "over the height of its row")
    static void aSignHasTheHeightOfItsRow() {
        NamePlate plate = with("A.C-E;A.C-E", 390, 280);
        due("size", plate.size(), 10);
        due("above the first row", plate.signAt(20, 19), NONE);
        due("first point of the first row", plate.signAt(20, 20), 0);
        due("last point of the first row", plate.signAt(20, 139), 0);
        due("first point of the second row", plate.signAt(20, 140), 100);
        due("last point of the second row", plate.signAt(20, 259), 100);
        due("below the second row", plate.signAt(20, 260), NONE);
    }

    @Bound(promise = 18, says = "Finds the sign, engraved or not, at a point of the plate")
    static void aSignIsFoundEngravedOrNot() {
        NamePlate plate = withEngraved();
        read(plate, "A");
        due("the engraved one", plate.signAt(940, 20), 0);
        due("the one that is not", plate.signAt(940, 500), 100);
    }

    @Bound(promise = 18, says = "Returns 100 * seat + index of the sign")
    static void theLastSignOfTheLastSeat() {
        NamePlate plate = withLetters(19);
        plate.recut(3680, 3000);
        plate.setMargin(60);
        read(plate, SIXTEEN);
        due("size of 20 rows on 2880 points", plate.size(), 12);
        int end = plate.name(19, 5) + 155 * 12;
        due("its last point", plate.signAt(end - 1, 2939), 1915);
        due("its end", plate.signAt(end, 2939), NONE);
        due("below it", plate.signAt(end - 1, 2940), NONE);
        due("the first sign of the last seat", plate.signAt(plate.name(19, 5), 2939), 1900);
    }

    @Bound(promise = 18, says = "that of the lowest seat of several")
    static void theLowestOfTwoSeats() {
        // BBB is engraved at 9, from 306 to 594; then AAAA, at first of 30 units, is widened to 39, to the point 351.
        NamePlate plate = with("AAAA;BBB", 600, 1000);
        plate.setMargin(0);
        plate.setColumns(2);
        due("engrave BBB", plate.engrave(1), 306);
        due("widen AAAA", plate.adjust('A', 'A', 3), 0);
        due("the last A alone", plate.signAt(324, 0), 3);
        due("both, at the last point of A", plate.signAt(350, 0), 3);
        due("B, at the end of A", plate.signAt(351, 0), 100);
        due("B, in the space before the last A", plate.signAt(323, 0), 100);
    }

    @Bound(promise = 18, says = "NONE if there is none, or the size is 0")
    static void thereIsNoSignAtThePoint() {
        due("without names", new NamePlate().signAt(20, 20), NONE);
        due("at the size 0", withoutSize().signAt(100, 100), NONE);
        due("in a space", fromEdgeToEdge().signAt(30, 0), NONE);
        due("below the row", fromEdgeToEdge().signAt(0, 120), NONE);
        due("behind the name", fromEdgeToEdge().signAt(350, 0), NONE);
    }

    @Bound(promise = 18, says = "NONE if there is none, or the size is 0")
    static void aSignIsFoundAtTheSize1() {
        NamePlate plate = with("DD", 300, 100);
        plate.setMargin(44);
        due("size of a row on 12 points", plate.size(), 1);
        due("first point", plate.signAt(143, 44), 0);
        due("last point", plate.signAt(156, 55), 1);
        due("end", plate.signAt(157, 55), NONE);
        due("below the row", plate.signAt(156, 56), NONE);
    }

    @Bound(promise = 18, says = "NONE if there is none, or the size is 0")
    static void noSignOfARemovedNameIsFound() {
        NamePlate plate = withEngraved();
        read(plate, "A");
        due("in the second row", plate.signAt(940, 500), 100);
        plate.remove(1);
        due("when it is removed", plate.signAt(940, 500), NONE);
        due("the first row", plate.signAt(940, 20), 0);
    }

    @Bound(promise = 18, says = "BAD_VALUE; NONE if there is none, or the size is 0")
    static void aPointBelow0ComesBeforeNone() {
        due("x without names", new NamePlate().signAt(-1, 20), BAD_VALUE);
        due("y without names", new NamePlate().signAt(20, -1), BAD_VALUE);
        due("x at the size 0", withoutSize().signAt(-1, 100), BAD_VALUE);
        due("y at the size 0", withoutSize().signAt(100, -1), BAD_VALUE);
    }

    @Bound(promise = 18, in = "ERRORS", says = CHANGES_NOTHING)
    static void aRefusedSignAtChangesNothing() {
        dueUnchanged("signAt(-1, 0)", Bounds::rich, plate -> plate.signAt(-1, 0), BAD_VALUE);
        dueUnchanged("signAt(0, 0)", Bounds::rich, plate -> plate.signAt(0, 0), NONE);
    }

    // ---- promise 19: size

    @Bound(promise = 19, says = "Returns the size; 0 if there is none.")
    static void theSizeIs0IfThereIsNone() {
        due("none fits", withoutSize().size(), 0);
        due("the least one", with(SIXTEEN, 300, 100).size(), 1);
        due("the greatest one", with("A", 6000, 3000).size(), 40);
        NamePlate plate = with("A;" + SIXTEEN, 300, 1000);
        plate.setColumns(3);
        due("one of two does not fit", plate.size(), 0);
    }

    // ---- promise 20: sizeBy

    @Bound(promise = 20, says = "`width`: 300 to 6000")
    static void theWidthThatIsAskedForIsFrom300To6000() {
        NamePlate plate = with(SIXTEEN);
        due("300", plate.sizeBy(300, 1000), 1);
        due("6000", plate.sizeBy(6000, 1000), 38);
        dueRefused("sizeBy the width", 300, 6000, BAD_VALUE, width -> plate.sizeBy(width, 1000));
    }

    @Bound(promise = 20, says = "`height`: 100 to 3000")
    static void theHeightThatIsAskedForIsFrom100To3000() {
        NamePlate plate = withLetters(20);
        due("100", plate.sizeBy(2000, 100), 0);
        due("3000", plate.sizeBy(2000, 3000), 12);
        dueRefused("sizeBy the height", 100, 3000, BAD_VALUE, height -> plate.sizeBy(2000, height));
    }

    @Bound(promise = 20, says = "Tells the size that the plate would have if it were cut anew.")
    static void theSizeIfItWereCutAnewIsWithNothingEngraved() {
        NamePlate plate = withEngraved();
        read(plate, SIXTEEN);
        due("as it is cut", plate.sizeBy(2000, 1000), 12);
        due("the size stays", plate.size(), 40);
        due("nothing is recorded", plate.count(10), 3);
        due("nothing is cut", plate.count(7), 0);
        due("it is engraved still", plate.count(5), 1);
    }

    @Bound(promise = 20, says = "Returns the size, 0 if there is none")
    static void theSizeIfItWereCutAnewCanBe0Or40() {
        NamePlate plate = with("A");
        plate.setMargin(100);
        due("one row on 11 points", plate.sizeBy(300, 211), 0);
        due("one row on 12 points", plate.sizeBy(300, 212), 1);
        due("one row on 100 points less than nothing", plate.sizeBy(300, 100), 0);
        due("the greatest plate", plate.sizeBy(6000, 3000), 40);
        due("without names", new NamePlate().sizeBy(300, 100), 40);
        plate.undo();
        plate.undo();
        plate.setMargin(100);
        due("without names, all margin", plate.sizeBy(300, 100), 40);
    }

    @Bound(promise = 20, in = "ERRORS", says = CHANGES_NOTHING)
    static void aRefusedSizeByChangesNothing() {
        dueUnchanged("sizeBy(299, 100)", Bounds::rich, plate -> plate.sizeBy(299, 100), BAD_VALUE);
        dueUnchanged("sizeBy(300, 3001)", Bounds::rich, plate -> plate.sizeBy(300, 3001), BAD_VALUE);
    }
}
