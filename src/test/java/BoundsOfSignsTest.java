/** The bounds that "SIGNS" and "TEXTS" name, of the document's "Terms". */
public final class BoundsOfSignsTest extends Bounds {

    public static void main(String[] args) {
        runAll(BoundsOfSignsTest.class);
    }

    // ---- SIGNS

    @Bound(promise = 8, in = "SIGNS", says = "A name has 1 to 16 signs")
    static void aNameHasOneSignAtLeast() {
        due("read A", reading("A"), 1);
        due("signs of A", with("A").name(0, 0), 1);
        due("no sign before ;", reading(";A"), -100);
        due("no sign between two ;", reading("A;;B"), -102);
    }

    @Bound(promise = 8, in = "SIGNS", says = "A name has 1 to 16 signs")
    static void aNameHasSixteenSignsAtMost() {
        due("read 16 signs", reading(SIXTEEN), 1);
        due("signs of 16", with(SIXTEEN).name(0, 0), 16);
        due("the last one of 16", with(SIXTEEN).sign(0, 15, 0), 'P');
        due("17 signs", reading(SIXTEEN + "Q"), -116);
    }

    @Bound(promise = 8, in = "SIGNS", says = "capital letters (A to Z, k = 0 to 25)")
    static void lettersAreFromAToZ() {
        due("A and Z", reading("AZ"), 1);
        due("Z and A", reading("ZA"), 1);
        due("the one before A", reading("" + (char) ('A' - 1)), -100);
        due("the one behind Z", reading("" + (char) ('Z' + 1)), -100);
        due("a small letter", reading("a"), -100);
        due("a small z", reading("Az"), -101);
        due("A by its low byte", reading("" + (char) ('A' + 256)), -100);
    }

    @Bound(promise = 8, in = "SIGNS", says = "capital letters (A to Z, k = 0 to 25), \".\" and \"-\"")
    static void marksAreTheStopAndTheHyphenAlone() {
        due("a stop", reading("A.B"), 1);
        due("a hyphen", reading("A-B"), 1);
        due("the one before the hyphen", reading("A" + (char) ('-' - 1) + "B"), -101);
        due("the one behind the stop", reading("A" + (char) ('.' + 1) + "B"), -101);
        due("a stop by its low byte", reading("A" + (char) ('.' + 256) + "B"), -101);
    }

    @Bound(promise = 8, in = "SIGNS", says = "its first and last sign is a letter")
    static void theFirstSignIsALetter() {
        due("a stop first", reading(".A"), -100);
        due("a hyphen first", reading("-A"), -100);
        due("a stop first in the second name", reading("A;.B"), -102);
        due("a hyphen first in the second name", reading("A;-B"), -102);
    }

    @Bound(promise = 8, in = "SIGNS", says = "its first and last sign is a letter")
    static void theLastSignIsALetter() {
        due("a stop last", reading("A."), -102);
        due("a hyphen last", reading("A-"), -102);
        due("a stop last in the first name", reading("A.;B"), -102);
        due("a hyphen last in the first name", reading("A-;B"), -102);
    }

    @Bound(promise = 8, in = "SIGNS", says = "no two of \".\" and \"-\" are next to each other")
    static void marksAreNoNeighbours() {
        due("two stops", reading("A..B"), -102);
        due("two hyphens", reading("A--B"), -102);
        due("stop and hyphen", reading("A.-B"), -102);
        due("hyphen and stop", reading("A-.B"), -102);
        due("a letter between them", reading("A.B-C.D"), 1);
    }

    @Bound(promise = 17, in = "SIGNS", says = "a letter 3 + k * 5 % 7, k % 3, and 1 + k * 3 % 5")
    static void numbersOfTheFirstAndTheLastLetter() {
        dueSign('A', 3, 0, 1);
        dueSign('Z', 9, 1, 1);
    }

    @Bound(promise = 17, in = "SIGNS", says = "a letter 3 + k * 5 % 7, k % 3, and 1 + k * 3 % 5")
    static void numbersWhereTheyBeginAgain() {
        dueSign('G', 5, 0, 4);
        dueSign('H', 3, 1, 2);
        dueSign('C', 6, 2, 2);
        dueSign('D', 4, 0, 5);
        dueSign('E', 9, 1, 3);
        dueSign('F', 7, 2, 1);
    }

    /** The space to an A, whose openness is 0, tells the openness; the ink of A is 1. */
    private static void dueSign(char letter, int width, int openness, int ink) {
        NamePlate plate = with(letter + "A");
        due("width of " + letter, plate.sign(0, 0, 2), width);
        due("space behind " + letter, plate.sign(0, 0, 3), 6 - openness);
        due("ink of " + letter + "A", plate.name(0, 10), ink + 1);
    }

    @Bound(promise = 17, in = "SIGNS", says = "\".\" has 2, 2, 1; \"-\" has 4, 2, 2")
    static void numbersOfTheMarks() {
        NamePlate plate = with("A.A-A");
        due("width of the stop", plate.sign(0, 1, 2), 2);
        due("space behind the stop", plate.sign(0, 1, 3), 6 - 2);
        due("width of the hyphen", plate.sign(0, 3, 2), 4);
        due("space behind the hyphen", plate.sign(0, 3, 3), 6 - 2);
        due("ink of A.A", with("A.A").name(0, 10), 1 + 1 + 1);
        due("ink of A-A", with("A-A").name(0, 10), 1 + 2 + 1);
    }

    @Bound(promise = 24, in = "SIGNS", says = "the adjustment of this pair of signs (at first 0, from -3 to 3)")
    static void anAdjustmentIsZeroAtFirst() {
        NamePlate plate = with("AZ");
        due("adjustment of AZ", plate.adjustment('A', 'Z'), 0);
        due("adjustment of .-", plate.adjustment('.', '-'), 0);
        due("space from A to Z", plate.sign(0, 0, 3), 6 - 1);
    }

    @Bound(promise = 5, in = "SIGNS", says = "the adjustment of this pair of signs (at first 0, from -3 to 3)")
    static void anAdjustmentIsFromMinusThreeToThree() {
        NamePlate plate = with("AA");
        due("by -4", plate.adjust('A', 'A', -4), BAD_VALUE);
        due("by 4", plate.adjust('A', 'A', 4), BAD_VALUE);
        due("space at first", plate.sign(0, 0, 3), 6);
        due("by -3", plate.adjust('A', 'A', -3), 0);
        due("space by -3", plate.sign(0, 0, 3), 3);
        due("by 3", plate.adjust('A', 'A', 3), -3);
        due("space by 3", plate.sign(0, 0, 3), 9);
    }

    @Bound(promise = 17, in = "SIGNS", says = "but at least 1 by all this")
    static void aSpaceIsAtLeastOne() {
        // C has the openness 2: by 0 the space of CC is 2, by -1 it is 1, and then it would be 0 and -1.
        int[] due = {2, 1, 1, 1};
        for (int closer = 0; closer <= 3; closer++) {
            NamePlate plate = with("CC");
            plate.adjust('C', 'C', -closer);
            due("space of CC by " + -closer, plate.sign(0, 0, 3), due[closer]);
            due("units of CC by " + -closer, plate.name(0, 1), 6 + due[closer] + 6);
            due("begin of the second C by " + -closer, plate.sign(0, 1, 1), 6 + due[closer]);
        }
    }

    @Bound(promise = 17, in = "SIGNS", says = "The eye's measure of a space is this space plus the openness of both.")
    static void theMeasureOfTheLeastSpace() {
        NamePlate plate = with("CC;AA;AC;CA");
        plate.adjust('C', 'C', -3);
        plate.adjust('A', 'A', 3);
        plate.adjust('A', 'C', -3);
        due("measure of a space of 1", plate.sign(0, 0, 4), 1 + 2 + 2);
        due("measure of the greatest space", plate.sign(1, 0, 4), 9);
        due("measure of a space of 1 before a C", plate.sign(2, 0, 4), 1 + 0 + 2);
        due("measure of a space of 4 behind a C", plate.sign(3, 0, 4), 4 + 2 + 0);
    }

    @Bound(promise = 16, in = "SIGNS",
            says = "The units of a name are the widths of all its signs and the spaces between them, together.")
    static void noSpaceStandsBehindTheLastSign() {
        due("units of one sign", with("Z").name(0, 1), 9);
        due("units of two signs", with("AZ").name(0, 1), 3 + 5 + 9);
        due("units of 16 signs", with(SIXTEEN).name(0, 1), 155);
    }

    // ---- TEXTS

    @Bound(promise = 6, in = "TEXTS", says = "There is a text of at most 60 characters, empty at first.")
    static void theTextIsEmptyAtFirst() {
        due("length at first", new NamePlate().count(11), 0);
        due("clear at first", new NamePlate().clearText(), 0);
        due("read at first", new NamePlate().readNames(), -100);
        due("the first character", new NamePlate().type('A'), 1);
    }

    @Bound(promise = 6, in = "TEXTS", says = "There is a text of at most 60 characters, empty at first.")
    static void theTextHasSixtyCharactersAtMost() {
        NamePlate plate = new NamePlate();
        Plates.text(plate, "A;".repeat(30));
        due("length of 60", plate.count(11), 60);
        due("one more", plate.type('A'), FULL);
        due("length then", plate.count(11), 60);
    }

    @Bound(promise = 8, in = "TEXTS", says = "A text of names is one or more names with \";\" between two.")
    static void aTextHasOneNameOrMore() {
        due("one name", reading("A"), 1);
        due("two names", reading("A;B"), 2);
        due("twenty names", reading("A" + ";B".repeat(19)), 20);
        due("; before the first name", reading(";A"), -100);
        due("; alone", reading(";"), -100);
        due("; behind the last name", reading("A;"), -102);
        due("two ; between two", reading("A;;B"), -102);
    }

    @Bound(promise = 8, in = "TEXTS",
            says = "The fault of the text is the index, from 0, of the first character that is not allowed at its place")
    static void theFaultIsTheFirstOfAll() {
        due("at 0", reading("?A?"), -100);
        due("at 1", reading("A??"), -101);
        due("at the last character", reading("A;B?"), -103);
        due("behind a fault of another kind", reading("A;;B.-C"), -102);
        due("a fault, and it ends too early", reading("A?."), -101);
        due("the 60th character", reading("A;".repeat(29) + "A?"), -159);
    }

    @Bound(promise = 8, in = "TEXTS", says = "(that of a 17th sign of a name, too;")
    static void theSeventeenthSignIsTheFault() {
        due("a letter", reading(SIXTEEN + "Q"), -116);
        due("a stop", reading(SIXTEEN + "."), -116);
        due("a hyphen", reading(SIXTEEN + "-Q"), -116);
        due("two too many", reading(SIXTEEN + "QR"), -116);
        due("in the second name", reading("A;" + SIXTEEN + "Q"), -118);
        due("; behind 16 signs", reading(SIXTEEN + ";" + SIXTEEN), 2);
    }

    @Bound(promise = 8, in = "TEXTS",
            says = "\".\" or \"-\" as the 16th sign is allowed at its place, and what is behind it is the fault)")
    static void whatIsBehindAMarkAsTheSixteenthSignIsTheFault() {
        for (String mark : new String[] {".", "-"}) {
            due("a letter behind " + mark, reading(FIFTEEN + mark + "A"), -116);
            due("; behind " + mark, reading(FIFTEEN + mark + ";A"), -116);
            due("a mark behind " + mark, reading(FIFTEEN + mark + "-"), -116);
            due("in the second name, behind " + mark, reading("A;" + FIFTEEN + mark + "A"), -118);
            due("as the 15th sign " + mark, reading(FIFTEEN.substring(1) + mark + "A"), 1);
        }
    }

    @Bound(promise = 8, in = "TEXTS", says = "or the length of the text if it ends too early (the empty text does;")
    static void theEmptyTextEndsTooEarly() {
        due("the empty text", reading(""), -100);
        NamePlate plate = new NamePlate();
        Plates.text(plate, "AB");
        plate.clearText();
        due("the emptied text", plate.readNames(), -100);
    }

    @Bound(promise = 8, in = "TEXTS", says = "a text whose last sign is \".\" or \"-\", too)")
    static void aTextWithAMarkAtItsEndEndsTooEarly() {
        due("a stop", reading("A."), -102);
        due("a hyphen", reading("A-"), -102);
        due("a stop as the 16th sign", reading(FIFTEEN + "."), -116);
        due("a hyphen as the 16th sign", reading(FIFTEEN + "-"), -116);
        due("in the second name", reading("A;B."), -104);
        due("at the 60th character", reading("A;".repeat(29) + "A."), -160);
    }

    @Bound(promise = 8, in = "TEXTS", says = "or the length of the text if it ends too early")
    static void aTextWithASemicolonAtItsEndEndsTooEarly() {
        due("; at the end", reading("A;"), -102);
        due("; behind 16 signs", reading(SIXTEEN + ";"), -117);
        due("; as the 60th character", reading("A;".repeat(30)), -160);
    }
}
