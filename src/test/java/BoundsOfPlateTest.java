/** The bounds that "PLATE" and "CENTRE" name, of the document's "Terms". */
public final class BoundsOfPlateTest extends Bounds {

    public static void main(String[] args) {
        runAll(BoundsOfPlateTest.class);
    }

    // ---- PLATE

    @Bound(promise = 1, in = "PLATE", says = "The plate has a width (300 to 6000, at first 2000)")
    static void theWidthAtFirst() {
        due("width at first", new NamePlate().count(0), 2000);
    }

    @Bound(promise = 1, in = "PLATE", says = "a height (100 to 3000, at first 1000)")
    static void theHeightAtFirst() {
        due("height at first", new NamePlate().count(1), 1000);
    }

    @Bound(promise = 1, in = "PLATE", says = "a margin (0 to 100, at first 20)")
    static void theMarginAtFirst() {
        due("margin at first", new NamePlate().count(2), 20);
    }

    @Bound(promise = 1, in = "PLATE", says = "1 to 3 columns (at first 1)")
    static void theColumnsAtFirst() {
        due("columns at first", new NamePlate().count(3), 1);
    }

    @Bound(promise = 4, in = "PLATE", says = "A column is (width - 2 * margin) / columns points wide (rounded down)")
    static void theWidthOfAColumnIsRoundedDown() {
        NamePlate plate = with(MIXED);
        plate.setColumns(3);
        // 35 units at the size 8 are 280 points, three times that and two margins 880; at the size 9 985.
        due("one point less", plate.sizeBy(879, 3000), 7);
        due("as wide", plate.sizeBy(880, 3000), 8);
        due("one point over", plate.sizeBy(881, 3000), 8);
        due("two points over", plate.sizeBy(882, 3000), 8);
        due("two thirds of a point are missing", plate.sizeBy(984, 3000), 8);
        due("as wide at the next size", plate.sizeBy(985, 3000), 9);
    }

    @Bound(promise = 16, in = "PLATE", says = "the column c begins at margin + c * that")
    static void columnsBeginOneBehindTheOther() {
        NamePlate plate = with("A.C-E;A.C-E;A.C-E;A.C-E", 882, 3000);
        plate.setColumns(3);
        due("size of names as wide as a column of 280", plate.size(), 8);
        due("column 0", plate.name(0, 5), 20);
        due("column 1", plate.name(1, 5), 20 + 280);
        due("column 2", plate.name(2, 5), 20 + 2 * 280);
        due("column 0 again", plate.name(3, 5), 20);
    }

    @Bound(promise = 8, in = "PLATE", says = "There are at most 20 names, in seats numbered from 0.")
    static void thereAreTwentyNamesAtMost() {
        NamePlate plate = withLetters(19);
        due("the 20th", read(plate, "Z"), 1);
        due("the 21st", plate.readNames(), FULL);
        due("names", plate.count(4), 20);
    }

    @Bound(promise = 16, in = "PLATE", says = "There are at most 20 names, in seats numbered from 0.")
    static void seatsAreNumberedFromZero() {
        NamePlate plate = withLetters(20);
        due("the first name", plate.sign(0, 0, 0), 'A');
        due("the last name", plate.sign(19, 0, 0), 'T');
        due("before the first seat", plate.name(-1, 0), UNKNOWN);
        due("behind the last seat", plate.name(20, 0), UNKNOWN);
    }

    @Bound(promise = 16, in = "PLATE", says = "The seat k is in the row k / columns and in the column k % columns.")
    static void theLastSeatOfARowAndTheFirstOfTheNext() {
        NamePlate plate = withLetters(20);
        due("row of 19, one column", plate.name(19, 3), 19);
        due("column of 19, one column", plate.name(19, 4), 0);
        plate.setColumns(3);
        int[] seats = {0, 2, 3, 17, 18, 19};
        int[] rows = {0, 0, 1, 5, 6, 6};
        int[] columns = {0, 2, 0, 2, 0, 1};
        for (int at = 0; at < seats.length; at++) {
            due("row of " + seats[at], plate.name(seats[at], 3), rows[at]);
            due("column of " + seats[at], plate.name(seats[at], 4), columns[at]);
        }
    }

    @Bound(promise = 19, in = "PLATE", says = "A size is from 1 to 40.")
    static void aSizeIsFortyAtMost() {
        due("with room for more", with("A", 6000, 3000).size(), 40);
        due("with room for 40", with("A", 300, 40 + 12 * 40).size(), 40);
        due("with room for 41", with("A", 300, 40 + 12 * 41).size(), 40);
        due("with room for 39", with("A", 300, 40 + 12 * 40 - 1).size(), 39);
    }

    @Bound(promise = 19, in = "PLATE", says = "A size is from 1 to 40.")
    static void aSizeIsOneAtLeast() {
        NamePlate plate = with("A", 300, 112);
        plate.setMargin(50);
        due("with room for 1", plate.size(), 1);
        plate.recut(300, 111);
        due("with room for less", plate.size(), 0);
    }

    @Bound(promise = 16, in = "PLATE",
            says = "a row is 12 * size points high; the row r begins at margin + 12 * size * r")
    static void theFirstAndTheLastRow() {
        NamePlate plate = withLetters(20);
        plate.recut(2000, 40 + 20 * 12 * 11);
        due("twenty rows as high as the plate", plate.size(), 11);
        due("the first row", plate.name(0, 6), 20);
        due("the second row", plate.name(1, 6), 20 + 132);
        due("the last row", plate.name(19, 6), 20 + 19 * 132);
    }

    @Bound(promise = 16, in = "PLATE", says = "A name fits at a size if it is not wider than a column")
    static void aNameAsWideAsTheColumnFits() {
        due("1960 points on 1960", fitsBehindEngraved(2000, 1000), 1);
        due("1960 points on 1959", fitsBehindEngraved(1999, 1000), 0);
    }

    @Bound(promise = 16, in = "PLATE",
            says = "the rows up to its own one are not higher than the height - 2 * margin")
    static void aRowAsHighAsThePlateFits() {
        due("960 points on 960", fitsBehindEngraved(2000, 1000), 1);
        due("960 points on 959", fitsBehindEngraved(2000, 999), 0);
        NamePlate plate = withEngraved();
        read(plate, "B;C");
        due("the third row of 480 points on 960", plate.name(2, 7), 0);
    }

    /** Whether AVATAR, 49 units, fits in the second row at the size 40, on a plate of two rows and 1960 points. */
    private static int fitsBehindEngraved(int width, int height) {
        NamePlate plate = with("A", width, height);
        plate.engrave(0);
        due("read AVATAR", read(plate, "AVATAR"), 1);
        due("width of AVATAR", plate.name(1, 8), 1960);
        return plate.name(1, 7);
    }

    @Bound(promise = 19, in = "PLATE", says = "The size of the plate is the greatest size at which all names fit")
    static void theSizeIsTheGreatestThatFits() {
        due("35 units on 280 points", with(MIXED, 320, 1000).size(), 8);
        due("35 units on 279 points", with(MIXED, 319, 1000).size(), 7);
        due("a row on 120 points", with(MIXED, 2000, 160).size(), 10);
        due("a row on 119 points", with(MIXED, 2000, 159).size(), 9);
        due("the last name is too wide for 9", with("A;A;A.C-E", 354, 1000).size(), 8);
        due("the first name is too wide for 9", with("A.C-E;A;A", 354, 1000).size(), 8);
        due("three rows on 324 points", with("A;A;A", 2000, 364).size(), 9);
        due("three rows on 323 points", with("A;A;A", 2000, 363).size(), 8);
    }

    @Bound(promise = 19, in = "PLATE", says = "(40 without names)")
    static void theSizeWithoutNames() {
        NamePlate plate = new NamePlate();
        due("at first", plate.size(), 40);
        plate.recut(300, 100);
        due("on the least plate", plate.size(), 40);
        plate.setMargin(100);
        due("on a plate that is all margin", plate.size(), 40);
        NamePlate emptied = withoutSize();
        due("remove the last name", emptied.remove(0), 0);
        due("when the last name is removed", emptied.size(), 40);
    }

    @Bound(promise = 19, in = "PLATE", says = "it is 0 if there is none")
    static void theSizeIsZeroIfNoneFits() {
        NamePlate narrow = with(SIXTEEN, 301, 1000);
        narrow.setMargin(73);
        due("155 units on 155 points", narrow.size(), 1);
        narrow.recut(300, 1000);
        due("155 units on 154 points", narrow.size(), 0);
        due("five rows on 60 points", with("A;B;C;D;E", 300, 100).size(), 1);
        due("six rows on 60 points", with("A;B;C;D;E;F", 300, 100).size(), 0);
    }

    @Bound(promise = 19, in = "PLATE",
            says = "As long as any name is engraved, the size is the one at which the first of these was engraved.")
    static void theSizeStaysWhenAMoreNarrowOneWouldBeDue() {
        NamePlate plate = withEngraved();
        read(plate, SIXTEEN + ";B");
        due("size with 16 signs and three rows", plate.size(), 40);
        plate.recut(2000, 1000);
        due("size when nothing is engraved", plate.size(), 12);
    }

    @Bound(promise = 19, in = "PLATE",
            says = "As long as any name is engraved, the size is the one at which the first of these was engraved.")
    static void theSizeStaysWhenAGreaterOneWouldBeDue() {
        NamePlate plate = with("A;B;" + SIXTEEN);
        due("engrave at 12", plate.engrave(0) >= 0 ? 1 : 0, 1);
        due("remove the long one", plate.remove(2), 2);
        due("size without the long one", plate.size(), 12);
        due("engrave another one", plate.engrave(1) >= 0 ? 1 : 0, 1);
        due("size of both", plate.size(), 12);
        due("undo the second one", plate.undo(), 3);
        due("size of the first one", plate.size(), 12);
        plate.recut(2000, 1000);
        due("size when nothing is engraved", plate.size(), 40);
        plate.engrave(0);
        due("size of the new first one", plate.size(), 40);
    }

    // ---- CENTRE: "AD" has its ink at the end, "DA" at its beginning; both have 13 units, 260 points at the size 20

    /** Where a name of 13 units begins at the size 20, on a column that begins at 20. */
    private static int beginOf(String name, int columnWidth) {
        NamePlate plate = with(name, columnWidth + 40, 280);
        due("size", plate.size(), 20);
        return plate.name(0, 5);
    }

    @Bound(promise = 16, in = "CENTRE",
            says = "the name begins at (S * (2 * begin of the column + width of the column) - size * T) / (2 * S), rounded down")
    static void theBeginIsRoundedDown() {
        due("(6 * (40 + 388) - 20 * 113) / 12, 25.7", beginOf("AD", 388), 25);
        due("(6 * (40 + 390) - 20 * 113) / 12, 26.7", beginOf("AD", 390), 26);
        due("(6 * (40 + 376) - 20 * 43) / 12, 136.3", beginOf("DA", 376), 136);
    }

    @Bound(promise = 16, in = "CENTRE", says = "but not to the left of the column")
    static void noNameBeginsToTheLeftOfItsColumn() {
        due("21.2 by the ink", beginOf("AD", 379), 21);
        due("20.2 by the ink", beginOf("AD", 377), 20);
        due("19.7 by the ink", beginOf("AD", 376), 20);
        due("far to the left by the ink", beginOf("AD", 260), 20);
    }

    @Bound(promise = 16, in = "CENTRE", says = "and not so far to the right that it ends to the right of it")
    static void noNameEndsToTheRightOfItsColumn() {
        due("136 by the ink, where it ends one point before", beginOf("DA", 377), 136);
        due("136 by the ink, where it ends with the column", beginOf("DA", 376), 136);
        due("135 by the ink, where it would end one point behind", beginOf("DA", 374), 134);
        due("far to the right by the ink", beginOf("DA", 260), 20);
    }

    @Bound(promise = 16, in = "CENTRE", says = "(where both cannot be, it begins with the column)")
    static void aNameThatIsTooWideBeginsWithItsColumn() {
        NamePlate plate = with("A");
        plate.setColumns(2);
        plate.engrave(0);
        read(plate, SIXTEEN + ";" + SIXTEEN);
        due("width", plate.name(1, 8), 6200);
        due("in the second column of 980", plate.name(1, 5), 1000);
        due("in the first one", plate.name(2, 5), 20);
    }
}
