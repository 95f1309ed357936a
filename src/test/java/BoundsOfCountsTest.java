/** The bounds that promises 21 to 26 name: sizeWithout, leastWidth, longest, adjustment, pair, count. */
public final class BoundsOfCountsTest extends Bounds {

    public static void main(String[] args) {
        runAll(BoundsOfCountsTest.class);
    }

    // ---- promise 21: sizeWithout

    @Bound(promise = 21, says = "`seat`: a seat that is taken")
    static void theFirstAndTheLastSeatAreLeftOut() {
        NamePlate plate = with(SIXTEEN + ";A;" + MIXED);
        due("without the first one", plate.sizeWithout(0), 40);
        due("without the last one", plate.sizeWithout(2), 12);
        dueRefused("sizeWithout", 0, 2, UNKNOWN, plate::sizeWithout);
        due("without the last one of 20", withLetters(20).sizeWithout(19), 4);
        due("without the one behind 20", withLetters(20).sizeWithout(20), UNKNOWN);
        due("without names", new NamePlate().sizeWithout(0), UNKNOWN);
    }

    @Bound(promise = 21, says = "(those behind it one seat earlier)")
    static void oneRowLessIsTaken() {
        NamePlate plate = with("A;B;C", 6000, 112);
        due("three rows on 72 points", plate.size(), 2);
        due("two rows, without the first one", plate.sizeWithout(0), 3);
        due("two rows, without the last one", plate.sizeWithout(2), 3);
        plate.setColumns(2);
        due("two rows of two columns", plate.size(), 3);
        due("one row, without the first one", plate.sizeWithout(0), 6);
        due("one row, without the last one", plate.sizeWithout(2), 6);
        due("the names stay", plate.count(4), 3);
    }

    @Bound(promise = 21, says = "Tells the size that a plate with nothing engraved would have without one name")
    static void theSizeWithoutOneNameIsWithNothingEngraved() {
        NamePlate plate = with("A;" + SIXTEEN);
        plate.engrave(0);
        due("size", plate.size(), 12);
        due("without the long one", plate.sizeWithout(1), 40);
        due("without the engraved one", plate.sizeWithout(0), 12);
        due("one is engraved still", plate.count(5), 1);
        due("nothing is recorded", plate.count(10), 2);
    }

    @Bound(promise = 21, says = "Returns the size, 0 if there is none")
    static void theSizeWithoutOneNameCanBe0Or40() {
        NamePlate plate = withoutSize();
        due("without the only one", plate.sizeWithout(0), 40);
        plate.readNames();
        due("without one of two, all margin", plate.sizeWithout(0), 0);
        due("without one of two, all margin, the other", plate.sizeWithout(1), 0);
    }

    @Bound(promise = 21, in = "ERRORS", says = CHANGES_NOTHING)
    static void aRefusedSizeWithoutChangesNothing() {
        dueUnchanged("sizeWithout(3)", Bounds::rich, plate -> plate.sizeWithout(3), UNKNOWN);
        dueUnchanged("sizeWithout(-1)", Bounds::rich, plate -> plate.sizeWithout(-1), UNKNOWN);
    }

    // ---- promise 22: leastWidth

    @Bound(promise = 22, says = "`size`: 1 to 40")
    static void theSizeThatIsAskedForIsFrom1To40() {
        NamePlate plate = with(SIXTEEN);
        due("1", plate.leastWidth(1), 300);
        due("40", plate.leastWidth(40), 40 + 155 * 40);
        dueRefused("leastWidth", 1, 40, BAD_VALUE, plate::leastWidth);
    }

    @Bound(promise = 22, says = "Returns the width, at least 300")
    static void theLeastWidthIs300() {
        NamePlate plate = with("AA");
        plate.setMargin(0);
        due("288 points", plate.leastWidth(24), 300);
        due("300 points", plate.leastWidth(25), 300);
        due("312 points", plate.leastWidth(26), 312);
        NamePlate columns = with("A");
        columns.setColumns(3);
        columns.setMargin(1);
        due("299 points", columns.leastWidth(33), 300);
        columns.setMargin(2);
        due("301 points", columns.leastWidth(33), 301);
    }

    @Bound(promise = 22, says = "(it can be more than 6000)")
    static void theLeastWidthCanBeMoreThan6000() {
        NamePlate plate = with(SIXTEEN);
        plate.setMargin(100);
        plate.setColumns(3);
        due("one column of 1860 points, three times", plate.leastWidth(12), 200 + 3 * 1860);
        due("one size more", plate.leastWidth(13), 200 + 3 * 2015);
        due("the greatest size", plate.leastWidth(40), 200 + 3 * 6200);
    }

    @Bound(promise = 22, says = "Tells the least width that the plate has to have so that all names fit at a size")
    static void onePointLessThanTheLeastWidthIsNotEnough() {
        NamePlate plate = with("A;A.C-E;B");
        plate.setColumns(3);
        for (int size = 3; size <= 40; size++) {
            int width = plate.leastWidth(size);
            due("least width at " + size, width, 40 + 3 * 35 * size);
            due("size by it", plate.sizeBy(width, 3000), size);
            due("size by one point less", plate.sizeBy(width - 1, 3000), size - 1);
        }
    }

    @Bound(promise = 22, says = "whatever its height")
    static void theHeightDoesNotCountForTheLeastWidth() {
        NamePlate plate = with(MIXED, 300, 100);
        plate.setMargin(100);
        due("size", plate.size(), 0);
        due("all margin", plate.leastWidth(40), 200 + 35 * 40);
        NamePlate twenty = withLetters(20);
        twenty.recut(300, 100);
        due("twenty rows on 60 points", twenty.leastWidth(40), 40 + 9 * 40);
    }

    @Bound(promise = 22, says = "NONE without names")
    static void thereIsNoLeastWidthWithoutNames() {
        due("the least size", new NamePlate().leastWidth(1), NONE);
        due("the greatest size", new NamePlate().leastWidth(40), NONE);
        NamePlate plate = with("A");
        plate.remove(0);
        due("the name is removed", plate.leastWidth(1), NONE);
    }

    @Bound(promise = 22, says = "BAD_VALUE; NONE without names")
    static void aBadSizeComesBeforeNone() {
        due("size 0 without names", new NamePlate().leastWidth(0), BAD_VALUE);
        due("size 41 without names", new NamePlate().leastWidth(41), BAD_VALUE);
    }

    @Bound(promise = 22, in = "ERRORS", says = CHANGES_NOTHING)
    static void aRefusedLeastWidthChangesNothing() {
        dueUnchanged("leastWidth(0)", Bounds::rich, plate -> plate.leastWidth(0), BAD_VALUE);
        dueUnchanged("leastWidth(1)", BoundsOfCountsTest::keptWithoutNames, plate -> plate.leastWidth(1), NONE);
    }

    private static NamePlate keptWithoutNames() {
        NamePlate plate = with("A;B");
        plate.keep();
        plate.remove(0);
        plate.remove(0);
        return plate;
    }

    // ---- promise 23: longest

    @Bound(promise = 23, says = "the lowest one of several")
    static void theLowestOfTheLongest() {
        due("all are as long", with("A;A;A").longest(), 0);
        due("the last two are", with("A;AA;AA").longest(), 1);
        due("the first and the last are", with("AA;A;AA").longest(), 0);
        due("two kinds of 13 units", with("A;AD;DA").longest(), 1);
    }

    @Bound(promise = 23, says = "Returns the seat of the name with the most units")
    static void theLongestInTheFirstAndTheLastSeat() {
        NamePlate plate = withLetters(19);
        due("E, of 9 units", plate.longest(), 4);
        read(plate, "AA");
        due("the last one", plate.longest(), 19);
        plate.swap(0, 19);
        due("the first one", plate.longest(), 0);
        due("one sign of 9 units before two of 7", with("Z;A;AH").longest(), 2);
        NamePlate units = with("BC;AAA");
        due("three signs of 21 units", units.longest(), 1);
        units.adjust('A', 'A', -3);
        units.adjust('B', 'C', 1);
        due("two signs of 18 units against 15", units.longest(), 0);
    }

    @Bound(promise = 23, says = "NONE without names")
    static void thereIsNoLongestWithoutNames() {
        due("at first", new NamePlate().longest(), NONE);
        NamePlate plate = with("A");
        due("with one name", plate.longest(), 0);
        plate.remove(0);
        due("the name is removed", plate.longest(), NONE);
    }

    @Bound(promise = 23, in = "ERRORS", says = CHANGES_NOTHING)
    static void longestOfNoneChangesNothing() {
        dueUnchanged("longest", BoundsOfCountsTest::keptWithoutNames, NamePlate::longest, NONE);
    }

    // ---- promise 24: adjustment

    @Bound(promise = 24, says = "`left`: the code of the left sign")
    static void theLeftSignOfAnAdjustmentIsOneOfThe28() {
        NamePlate plate = new NamePlate();
        for (int code = 0; code < 300; code++) {
            due("left " + code, plate.adjustment((char) code, 'Z'), Plates.isSign(code) ? 0 : UNKNOWN);
        }
        due("the last code", plate.adjustment((char) 65535, 'Z'), UNKNOWN);
    }

    @Bound(promise = 24, says = "`right`: the code of the right one")
    static void theRightSignOfAnAdjustmentIsOneOfThe28() {
        NamePlate plate = new NamePlate();
        for (int code = 0; code < 300; code++) {
            due("right " + code, plate.adjustment('Z', (char) code), Plates.isSign(code) ? 0 : UNKNOWN);
        }
        due("the last code", plate.adjustment('Z', (char) 65535), UNKNOWN);
    }

    @Bound(promise = 24, says = "Returns the adjustment of this pair")
    static void theLeastAndTheGreatestAdjustment() {
        NamePlate plate = new NamePlate();
        plate.adjust('A', 'Z', -3);
        plate.adjust('Z', 'A', 3);
        due("-3", plate.adjustment('A', 'Z'), -3);
        due("3", plate.adjustment('Z', 'A'), 3);
        due("a sign with itself", plate.adjustment('A', 'A'), 0);
        plate.adjust('A', 'Z', 0);
        due("0 again", plate.adjustment('A', 'Z'), 0);
        NamePlate full = withSixteenPairs("A");
        due("the first of 16", full.adjustment('A', 'A'), 1);
        due("the last of 16", full.adjustment('P', 'A'), 1);
        due("none of 16", full.adjustment('Q', 'A'), 0);
    }

    @Bound(promise = 24, says = "UNKNOWN if one of both is no sign")
    static void oneOfBothIsNoSignOfAnAdjustment() {
        due("the left one", new NamePlate().adjustment('a', 'A'), UNKNOWN);
        due("the right one", new NamePlate().adjustment('A', 'a'), UNKNOWN);
        due("both", new NamePlate().adjustment('a', 'a'), UNKNOWN);
    }

    @Bound(promise = 24, in = "ERRORS", says = CHANGES_NOTHING)
    static void aRefusedAdjustmentChangesNothing() {
        dueUnchanged("adjustment", Bounds::rich, plate -> plate.adjustment('a', 'A'), UNKNOWN);
    }

    // ---- promise 25: pair

    @Bound(promise = 25, says = "`place`: a place among the pairs whose adjustment is not 0, from 0")
    static void theFirstAndTheLastPlace() {
        NamePlate plate = withSixteenPairs("A");
        due("place 0", plate.pair(0, 0), 'A');
        due("place 15", plate.pair(15, 0), 'P');
        due("place 16", plate.pair(16, 0), NONE);
        due("the greatest place", plate.pair(GREATEST_INT, 0), NONE);
    }

    @Bound(promise = 25, says = "in the order in which they got one (since it was 0 the last time)")
    static void aPairThatWas0IsTheLastOne() {
        NamePlate plate = withSixteenPairs("A");
        plate.adjust('A', 'A', 0);
        due("the second one is the first one", plate.pair(0, 0), 'B');
        due("the last one", plate.pair(14, 0), 'P');
        due("there is no 16th", plate.pair(15, 0), NONE);
        plate.adjust('A', 'A', 2);
        due("it is the last one", plate.pair(15, 0), 'A');
        due("its adjustment", plate.pair(15, 2), 2);
    }

    @Bound(promise = 25, says = "in the order in which they got one (since it was 0 the last time)")
    static void thePairsBehindOneThatIs0ComeOnePlaceEarlier() {
        String signs = "AB.C-DEFGHIJKLMNO";
        for (int zero = 0; zero < 16; zero += 5) {
            NamePlate plate = new NamePlate();
            for (int place = 0; place < 16; place++) {
                plate.adjust(signs.charAt(place), signs.charAt(place + 1), place % 3 + 1);
            }
            plate.adjust(signs.charAt(zero), signs.charAt(zero + 1), 0);
            for (int place = 0; place < 15; place++) {
                int was = place < zero ? place : place + 1;
                due("left of " + place + " without " + zero, plate.pair(place, 0), signs.charAt(was));
                due("right of " + place + " without " + zero, plate.pair(place, 1), signs.charAt(was + 1));
                due("adjustment of " + place + " without " + zero, plate.pair(place, 2), was % 3 + 1);
            }
            due("behind them", plate.pair(15, 2), NONE);
        }
    }

    @Bound(promise = 25, says = "in the order in which they got one (since it was 0 the last time)")
    static void aPairThatWasNot0KeepsItsPlace() {
        NamePlate plate = withSixteenPairs("A");
        plate.adjust('A', 'A', -3);
        plate.adjust('P', 'A', 3);
        due("the first one", plate.pair(0, 0), 'A');
        due("its adjustment", plate.pair(0, 2), -3);
        due("the last one", plate.pair(15, 0), 'P');
        due("its adjustment then", plate.pair(15, 2), 3);
    }

    @Bound(promise = 25, says = "`what`: 0 for the code of the left sign, 1 for that of the right one, 2 for the adjustment")
    static void theFirstAndTheLastNumberOfAPair() {
        NamePlate plate = new NamePlate();
        plate.adjust('Z', '.', -2);
        due("what 0", plate.pair(0, 0), 'Z');
        due("what 1", plate.pair(0, 1), '.');
        due("what 2", plate.pair(0, 2), -2);
    }

    @Bound(promise = 25, says = "BAD_VALUE (place is negative, or what)")
    static void aNegativePlaceOrABadNumber() {
        NamePlate plate = withSixteenPairs("A");
        due("place -1", plate.pair(-1, 0), BAD_VALUE);
        due("the least place", plate.pair(LEAST_INT, 0), BAD_VALUE);
        dueRefused("pair(0, what)", 0, 2, BAD_VALUE, what -> plate.pair(0, what));
    }

    @Bound(promise = 25, says = "NONE if there are not so many")
    static void thereAreNotSoManyPairs() {
        NamePlate plate = new NamePlate();
        due("none", plate.pair(0, 0), NONE);
        plate.adjust('A', 'B', 1);
        due("one", plate.pair(0, 0), 'A');
        due("one alone", plate.pair(1, 0), NONE);
        plate.adjust('A', 'B', 0);
        due("none again", plate.pair(0, 0), NONE);
    }

    @Bound(promise = 25, says = "BAD_VALUE (place is negative, or what); NONE if there are not so many")
    static void aBadNumberComesBeforeNone() {
        due("what 3 of no pair", new NamePlate().pair(0, 3), BAD_VALUE);
        due("what -1 of no pair", new NamePlate().pair(0, -1), BAD_VALUE);
        due("what 3 behind all", new NamePlate().pair(GREATEST_INT, 3), BAD_VALUE);
        due("place -1 of none", new NamePlate().pair(-1, 0), BAD_VALUE);
    }

    @Bound(promise = 25, in = "ERRORS", says = CHANGES_NOTHING)
    static void aRefusedPairChangesNothing() {
        dueUnchanged("pair(-1, 0)", Bounds::rich, plate -> plate.pair(-1, 0), BAD_VALUE);
        dueUnchanged("pair(1, 0)", Bounds::rich, plate -> plate.pair(1, 0), NONE);
    }

    // ---- promise 26: count

    @Bound(promise = 26, says = "`what`: 0 for the width")
    static void theFirstAndTheLastCount() {
        NamePlate plate = with("A;B");
        due("what 0", plate.count(0), 2000);
        due("what 11", plate.count(11), 3);
        dueRefused("count", 0, 11, BAD_VALUE, plate::count);
    }

    @Bound(promise = 26, says = "4 for the number of names")
    static void noNameOrTwentyAreCounted() {
        due("none", new NamePlate().count(4), 0);
        due("one", with("A").count(4), 1);
        due("twenty", withLetters(20).count(4), 20);
    }

    @Bound(promise = 26, says = "5 for names that are engraved")
    static void noEngravedNameOrTwentyAreCounted() {
        NamePlate plate = withLetters(20);
        due("none", plate.count(5), 0);
        plate.engrave(19);
        due("one", plate.count(5), 1);
        plate.engraveAll();
        due("twenty", plate.count(5), 20);
        plate.recut(2000, 1000);
        due("none again", plate.count(5), 0);
    }

    @Bound(promise = 26, says = "6 for rows that are taken by names")
    static void aRowIsTakenByOneNameAndByThree() {
        for (int names = 1; names <= 20; names++) {
            NamePlate plate = withLetters(names);
            due("rows of one column, names " + names, plate.count(6), names);
            plate.setColumns(2);
            due("rows of two columns, names " + names, plate.count(6), names / 2 + names % 2);
            plate.setColumns(3);
            due("rows of three columns, names " + names, plate.count(6), names / 3 + (names % 3 == 0 ? 0 : 1));
        }
        NamePlate empty = new NamePlate();
        due("no row of one column", empty.count(6), 0);
        empty.setColumns(3);
        due("no row of three columns", empty.count(6), 0);
    }

    @Bound(promise = 26, says = "7 for how often the plate was cut anew")
    static void theTimesThatThePlateWasCutAnew() {
        NamePlate plate = new NamePlate();
        due("never", plate.count(7), 0);
        plate.recut(299, 1000);
        due("never, by a refused cut", plate.count(7), 0);
        plate.recut(2000, 1000);
        due("once", plate.count(7), 1);
        plate.undo();
        due("never, when it is undone", plate.count(7), 0);
    }

    @Bound(promise = 26, says = "8 for engraved names that were lost by that")
    static void theNamesThatWereLost() {
        NamePlate plate = withLetters(20);
        plate.recut(2000, 1000);
        due("none was engraved", plate.count(8), 0);
        plate.engraveAll();
        plate.recut(2000, 1000);
        due("twenty were", plate.count(8), 20);
        plate.engrave(0);
        plate.recut(2000, 1000);
        due("and one more", plate.count(8), 21);
        plate.undo();
        due("which is undone", plate.count(8), 20);
    }

    @Bound(promise = 26, says = "9 for pairs whose adjustment is not 0")
    static void noPairOrSixteenAreCounted() {
        due("none", new NamePlate().count(9), 0);
        NamePlate plate = withSixteenPairs("A");
        due("sixteen", plate.count(9), 16);
        plate.adjust('A', 'A', -3);
        due("sixteen, one of them other than before", plate.count(9), 16);
        for (int place = 15; place >= 0; place--) {
            plate.adjust((char) ('A' + place), 'A', 0);
            due("pairs", plate.count(9), place);
        }
    }

    @Bound(promise = 26, says = "10 for the states in the history")
    static void noStateOrFiveAreCounted() {
        NamePlate plate = new NamePlate();
        due("none", plate.count(10), 0);
        for (int act = 1; act <= 7; act++) {
            plate.recut(2000, 1000);
            due("acts " + act, plate.count(10), Math.min(act, 5));
        }
        for (int left = 4; left >= 0; left--) {
            plate.undo();
            due("left", plate.count(10), left);
        }
        plate.undo();
        due("none again", plate.count(10), 0);
    }

    @Bound(promise = 26, says = "11 for the length of the text")
    static void noCharacterOr60AreCounted() {
        NamePlate plate = new NamePlate();
        due("none", plate.count(11), 0);
        for (int length = 1; length <= 60; length++) {
            plate.type((char) 65535);
            due("length", plate.count(11), length);
        }
        plate.type('A');
        due("60 at most", plate.count(11), 60);
    }

    @Bound(promise = 26, in = "ERRORS", says = CHANGES_NOTHING)
    static void aRefusedCountChangesNothing() {
        dueUnchanged("count(12)", Bounds::rich, plate -> plate.count(12), BAD_VALUE);
        dueUnchanged("count(-1)", Bounds::rich, plate -> plate.count(-1), BAD_VALUE);
    }
}
