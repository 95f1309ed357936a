/** The bounds that promises 1 to 5 name: a new object, recut, setMargin, setColumns, adjust. */
public final class BoundsOfCutsTest extends Bounds {

    private static final String MARGIN_ERRORS =
            "Returns the previous one; BAD_VALUE; NOT_POSSIBLE if any name is engraved; NONE if it is so already.";
    private static final String ADJUST_ERRORS =
            "Returns the previous one; UNKNOWN (one of both is no sign); BAD_VALUE; NOT_POSSIBLE if any engraved name "
            + "has this pair; NONE if it is so already; FULL if it was 0, is to be another one, and 16 pairs have one "
            + "that is not 0.";

    public static void main(String[] args) {
        runAll(BoundsOfCutsTest.class);
    }

    // ---- promise 1: a new object

    @Bound(promise = 1, says = "Creates an empty plate.")
    static void nothingIsOnANewPlate() {
        NamePlate plate = new NamePlate();
        for (int what = 4; what < 12; what++) {
            due("count(" + what + ")", plate.count(what), 0);
        }
        due("name in the first seat", plate.name(0, 0), UNKNOWN);
        due("pair in the first place", plate.pair(0, 0), NONE);
        due("undo", plate.undo(), NONE);
        due("restore", plate.restore(), NONE);
        due("longest", plate.longest(), NONE);
        due("engrave all", plate.engraveAll(), NONE);
    }

    @Bound(promise = 1, says = "Creates an empty plate.")
    static void aNewPlateIsEmptyWhenAnotherOneIsNot() {
        NamePlate other = rich();
        nothingIsOnANewPlate();
        due("the other one has its names", other.count(4), 3);
    }

    // ---- promise 2: recut

    @Bound(promise = 2, says = "`width`: 300 to 6000")
    static void theWidthIsFrom300To6000() {
        NamePlate plate = new NamePlate();
        due("recut to 300", plate.recut(300, 1000), 0);
        due("width of 300", plate.count(0), 300);
        due("recut to 6000", plate.recut(6000, 1000), 0);
        due("width of 6000", plate.count(0), 6000);
        dueRefused("recut the width", 300, 6000, BAD_VALUE, width -> plate.recut(width, 1000));
        due("width then", plate.count(0), 6000);
    }

    @Bound(promise = 2, says = "`height`: 100 to 3000")
    static void theHeightIsFrom100To3000() {
        NamePlate plate = new NamePlate();
        due("recut to 100", plate.recut(2000, 100), 0);
        due("height of 100", plate.count(1), 100);
        due("recut to 3000", plate.recut(2000, 3000), 0);
        due("height of 3000", plate.count(1), 3000);
        dueRefused("recut the height", 100, 3000, BAD_VALUE, height -> plate.recut(2000, height));
        due("height then", plate.count(1), 3000);
    }

    @Bound(promise = 2, says = "This is an act, also with the width and height that it has.")
    static void recutAsItIsIsAnAct() {
        NamePlate plate = withEngraved();
        due("recut as it is", plate.recut(2000, 1000), 1);
        due("engraved then", plate.count(5), 0);
        due("cut anew", plate.count(7), 1);
        due("states", plate.count(10), 3);
        due("again", plate.recut(2000, 1000), 0);
        due("states then", plate.count(10), 4);
        plate.undo();
        plate.undo();
        due("undone", plate.count(5), 1);
    }

    @Bound(promise = 2, says = "Returns how many engraved names are lost")
    static void noneOrTwentyEngravedNamesAreLost() {
        NamePlate plate = withLetters(20);
        due("none is engraved", plate.recut(2000, 1000), 0);
        plate.engrave(19);
        due("one is engraved", plate.recut(2000, 1000), 1);
        plate.engraveAll();
        due("twenty are engraved", plate.recut(2000, 1000), 20);
        due("lost in all", plate.count(8), 21);
    }

    @Bound(promise = 2, in = "ERRORS", says = CHANGES_NOTHING)
    static void aRefusedRecutChangesNothing() {
        dueUnchanged("recut(299, 1000)", Bounds::rich, plate -> plate.recut(299, 1000), BAD_VALUE);
        dueUnchanged("recut(6001, 1000)", Bounds::rich, plate -> plate.recut(6001, 1000), BAD_VALUE);
        dueUnchanged("recut(2000, 99)", Bounds::rich, plate -> plate.recut(2000, 99), BAD_VALUE);
        dueUnchanged("recut(2000, 3001)", Bounds::rich, plate -> plate.recut(2000, 3001), BAD_VALUE);
    }

    // ---- promise 3: setMargin

    @Bound(promise = 3, says = "`margin`: 0 to 100")
    static void theMarginIsFrom0To100() {
        NamePlate plate = new NamePlate();
        due("margin of 0", plate.setMargin(0), 20);
        due("margin is 0", plate.count(2), 0);
        due("margin of 100", plate.setMargin(100), 0);
        due("margin is 100", plate.count(2), 100);
        dueRefused("setMargin", 0, 100, BAD_VALUE, plate::setMargin);
        due("margin then", plate.count(2), 100);
    }

    @Bound(promise = 3,
            says = "(a plate of 100 points can be all margin: its height - 2 * margin is below 0 then, and no name fits)")
    static void noNameFitsOnAPlateThatIsAllMargin() {
        NamePlate plate = with("A", 6000, 100);
        due("12 points are left", plate.setMargin(44), 20);
        due("size on 12 points", plate.size(), 1);
        due("10 points are left", plate.setMargin(45), 44);
        due("size on 10 points", plate.size(), 0);
        due("nothing is left", plate.setMargin(50), 45);
        due("size on nothing", plate.size(), 0);
        due("less than nothing is left", plate.setMargin(51), 50);
        due("size on less", plate.size(), 0);
        due("100 points less", plate.setMargin(100), 51);
        due("size on 100 points less", plate.size(), 0);
        due("it does not fit", plate.name(0, 7), 0);
        due("it is not engraved", plate.engrave(0), NOT_POSSIBLE);
    }

    @Bound(promise = 3, says = "NOT_POSSIBLE if any name is engraved")
    static void noMarginIsSetForOneEngravedName() {
        due("one of one is engraved", withEngraved().setMargin(21), NOT_POSSIBLE);
        due("none is engraved", with("A").setMargin(21), 20);
    }

    @Bound(promise = 3, says = "NONE if it is so already")
    static void theMarginThatIsSoAlready() {
        NamePlate plate = new NamePlate();
        due("20, as at first", plate.setMargin(20), NONE);
        due("states", plate.count(10), 0);
        plate.setMargin(0);
        due("0 again", plate.setMargin(0), NONE);
        plate.setMargin(100);
        due("100 again", plate.setMargin(100), NONE);
        due("states then", plate.count(10), 2);
    }

    @Bound(promise = 3, says = MARGIN_ERRORS)
    static void theOrderOfTheErrorsOfSetMargin() {
        due("out of range and engraved", withEngraved().setMargin(101), BAD_VALUE);
        due("below 0 and engraved", withEngraved().setMargin(-1), BAD_VALUE);
        due("engraved and as it is", withEngraved().setMargin(20), NOT_POSSIBLE);
    }

    @Bound(promise = 3, in = "ERRORS", says = CHANGES_NOTHING)
    static void aRefusedSetMarginChangesNothing() {
        dueUnchanged("setMargin(-1)", Bounds::free, plate -> plate.setMargin(-1), BAD_VALUE);
        dueUnchanged("setMargin(101)", Bounds::free, plate -> plate.setMargin(101), BAD_VALUE);
        dueUnchanged("setMargin(0)", Bounds::rich, plate -> plate.setMargin(0), NOT_POSSIBLE);
        dueUnchanged("setMargin(20)", Bounds::free, plate -> plate.setMargin(20), NONE);
    }

    // ---- promise 4: setColumns

    @Bound(promise = 4, says = "`columns`: 1 to 3")
    static void theColumnsAreFrom1To3() {
        NamePlate plate = new NamePlate();
        due("three columns", plate.setColumns(3), 1);
        due("columns are three", plate.count(3), 3);
        due("one column", plate.setColumns(1), 3);
        due("columns are one", plate.count(3), 1);
        dueRefused("setColumns", 1, 3, BAD_VALUE, plate::setColumns);
        due("columns then", plate.count(3), 1);
    }

    @Bound(promise = 4, says = "NOT_POSSIBLE if any name is engraved")
    static void noColumnsAreSetForOneEngravedName() {
        due("one of one is engraved", withEngraved().setColumns(2), NOT_POSSIBLE);
        due("none is engraved", with("A").setColumns(2), 1);
    }

    @Bound(promise = 4, says = "NONE if it is so already")
    static void theColumnsThatAreSoAlready() {
        NamePlate plate = new NamePlate();
        due("one, as at first", plate.setColumns(1), NONE);
        due("states", plate.count(10), 0);
        plate.setColumns(3);
        due("three again", plate.setColumns(3), NONE);
        due("states then", plate.count(10), 1);
    }

    @Bound(promise = 4, says = MARGIN_ERRORS)
    static void theOrderOfTheErrorsOfSetColumns() {
        due("no column and engraved", withEngraved().setColumns(0), BAD_VALUE);
        due("four columns and engraved", withEngraved().setColumns(4), BAD_VALUE);
        due("engraved and as it is", withEngraved().setColumns(1), NOT_POSSIBLE);
    }

    @Bound(promise = 4, in = "ERRORS", says = CHANGES_NOTHING)
    static void aRefusedSetColumnsChangesNothing() {
        dueUnchanged("setColumns(0)", Bounds::free, plate -> plate.setColumns(0), BAD_VALUE);
        dueUnchanged("setColumns(4)", Bounds::free, plate -> plate.setColumns(4), BAD_VALUE);
        dueUnchanged("setColumns(3)", Bounds::rich, plate -> plate.setColumns(3), NOT_POSSIBLE);
        dueUnchanged("setColumns(2)", Bounds::free, plate -> plate.setColumns(2), NONE);
    }

    // ---- promise 5: adjust

    @Bound(promise = 5, says = "`left`: the code of the left sign")
    static void theLeftSignIsOneOfThe28() {
        for (int code = 0; code < 300; code++) {
            due("left " + code, new NamePlate().adjust((char) code, 'A', 1), Plates.isSign(code) ? 0 : UNKNOWN);
        }
        due("the last code", new NamePlate().adjust((char) 65535, 'A', 1), UNKNOWN);
    }

    @Bound(promise = 5, says = "`right`: the code of the right one")
    static void theRightSignIsOneOfThe28() {
        for (int code = 0; code < 300; code++) {
            due("right " + code, new NamePlate().adjust('A', (char) code, 1), Plates.isSign(code) ? 0 : UNKNOWN);
        }
        due("the last code", new NamePlate().adjust('A', (char) 65535, 1), UNKNOWN);
    }

    @Bound(promise = 5, says = "`by`: -3 to 3")
    static void anAdjustmentIsByThreeAtMost() {
        NamePlate plate = new NamePlate();
        due("by -3", plate.adjust('.', '-', -3), 0);
        due("it is -3", plate.adjustment('.', '-'), -3);
        due("by 3", plate.adjust('.', '-', 3), -3);
        due("it is 3", plate.adjustment('.', '-'), 3);
        dueRefused("adjust", -3, 3, BAD_VALUE, by -> plate.adjust('.', '-', by));
        due("it is 3 then", plate.adjustment('.', '-'), 3);
    }

    @Bound(promise = 5, says = "UNKNOWN (one of both is no sign)")
    static void oneOfBothIsNoSign() {
        due("the left one", new NamePlate().adjust('a', 'A', 1), UNKNOWN);
        due("the right one", new NamePlate().adjust('A', 'a', 1), UNKNOWN);
        due("both", new NamePlate().adjust('a', 'a', 1), UNKNOWN);
        due("none", new NamePlate().adjust('A', 'A', 1), 0);
    }

    @Bound(promise = 5, says = "NOT_POSSIBLE if any engraved name has this pair")
    static void thePairOfANameThatIsNotEngravedIsFree() {
        NamePlate plate = with("AB;BA");
        plate.engrave(1);
        due("the pair of the engraved name", plate.adjust('B', 'A', 1), NOT_POSSIBLE);
        due("the pair of the other one", plate.adjust('A', 'B', 1), 0);
        plate.undo();
        plate.undo();
        due("when it is engraved no more", plate.adjust('B', 'A', 1), 0);
    }

    @Bound(promise = 5, says = "NONE if it is so already")
    static void theAdjustmentThatIsSoAlready() {
        NamePlate plate = new NamePlate();
        due("0, as at first", plate.adjust('A', 'B', 0), NONE);
        due("states", plate.count(10), 0);
        plate.adjust('A', 'B', -3);
        due("-3 again", plate.adjust('A', 'B', -3), NONE);
        plate.adjust('A', 'B', 0);
        due("0 again", plate.adjust('A', 'B', 0), NONE);
        due("states then", plate.count(10), 2);
    }

    @Bound(promise = 5, says = "FULL if it was 0, is to be another one, and 16 pairs have one that is not 0")
    static void theSeventeenthPair() {
        NamePlate plate = withSixteenPairs("A");
        due("pairs", plate.count(9), 16);
        due("the 17th by 1", plate.adjust('Q', 'A', 1), FULL);
        due("the 17th by -3", plate.adjust('Q', 'A', -3), FULL);
        due("pairs then", plate.count(9), 16);
    }

    @Bound(promise = 5, says = "FULL if it was 0, is to be another one, and 16 pairs have one that is not 0")
    static void oneOfSixteenPairsIsFree() {
        NamePlate plate = withSixteenPairs("A");
        due("the first one", plate.adjust('A', 'A', 3), 1);
        due("the last one", plate.adjust('P', 'A', -3), 1);
        due("the last one by 0", plate.adjust('P', 'A', 0), -3);
        due("pairs", plate.count(9), 15);
        due("another one", plate.adjust('Q', 'A', 1), 0);
        due("one too many", plate.adjust('P', 'A', 1), FULL);
    }

    @Bound(promise = 5, says = ADJUST_ERRORS)
    static void theOrderOfTheErrorsOfAdjust() {
        NamePlate plate = withSixteenPairs("QR;BA");
        plate.engraveAll();
        due("no sign, and by 4", plate.adjust('a', 'A', 4), UNKNOWN);
        due("no sign on the right, and by -4", plate.adjust('A', 'a', -4), UNKNOWN);
        due("by 4, and engraved", plate.adjust('B', 'A', 4), BAD_VALUE);
        due("by -4, and one too many", plate.adjust('X', 'A', -4), BAD_VALUE);
        due("engraved, and so already", plate.adjust('B', 'A', 1), NOT_POSSIBLE);
        due("engraved, and so already by 0", plate.adjust('Q', 'R', 0), NOT_POSSIBLE);
        due("engraved, and one too many", plate.adjust('Q', 'R', 1), NOT_POSSIBLE);
        due("0 already, when 16 pairs are", plate.adjust('X', 'A', 0), NONE);
        due("no sign, when 16 pairs are", plate.adjust('a', 'A', 1), UNKNOWN);
    }

    @Bound(promise = 5, in = "ERRORS", says = CHANGES_NOTHING)
    static void aRefusedAdjustChangesNothing() {
        dueUnchanged("adjust a", Bounds::rich, plate -> plate.adjust('a', 'B', 1), UNKNOWN);
        dueUnchanged("adjust by 4", Bounds::rich, plate -> plate.adjust('B', 'A', 4), BAD_VALUE);
        dueUnchanged("adjust by -4", Bounds::rich, plate -> plate.adjust('B', 'A', -4), BAD_VALUE);
        dueUnchanged("adjust what is engraved", Bounds::rich, plate -> plate.adjust('A', 'B', 0), NOT_POSSIBLE);
        dueUnchanged("adjust to what it is", Bounds::free, plate -> plate.adjust('A', 'B', 2), NONE);
        dueUnchanged("adjust the 17th", BoundsOfCutsTest::keptWithSixteenPairs, plate -> plate.adjust('Q', 'A', 1), FULL);
    }

    private static NamePlate keptWithSixteenPairs() {
        NamePlate plate = withSixteenPairs("A");
        plate.keep();
        return plate;
    }
}
