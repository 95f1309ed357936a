import java.util.function.ToIntFunction;

/** The sentences of the document that name no boundary case; with the classes BoundsOf*Test these are all. */
public final class OtherSentencesTest extends Bounds {

    private static final String SIGNS = "ABCDEFGHIJKLMNOPQRSTUVWXYZ.-";
    private static final int[] WIDTHS = {3, 8, 6, 4, 9, 7, 5, 3, 8, 6, 4, 9, 7, 5, 3, 8, 6, 4, 9, 7, 5, 3, 8, 6, 4, 9, 2, 4};
    private static final int[] OPEN = {0, 1, 2, 0, 1, 2, 0, 1, 2, 0, 1, 2, 0, 1, 2, 0, 1, 2, 0, 1, 2, 0, 1, 2, 0, 1, 2, 2};
    private static final int[] INKS = {1, 4, 2, 5, 3, 1, 4, 2, 5, 3, 1, 4, 2, 5, 3, 1, 4, 2, 5, 3, 1, 4, 2, 5, 3, 1, 1, 2};
    private static final int FIRST_MARK = 26;

    public static void main(String[] args) {
        runAll(OtherSentencesTest.class);
    }

    // ---- SIGNS

    @Bound(promise = 8, in = "SIGNS", says = "A name has 1 to 16 signs: capital letters (A to Z, k = 0 to 25), \".\" and \"-\"; "
            + "its first and last sign is a letter, and no two of \".\" and \"-\" are next to each other.")
    static void allShortTextsOfALetterAndTheMarks() {
        for (int signs = 1; signs <= 5; signs++) {
            for (int number = 0; number < Math.pow(3, signs); number++) {
                StringBuilder text = new StringBuilder();
                for (int rest = number; text.length() < signs; rest /= 3) {
                    text.append("B.-".charAt(rest % 3));
                }
                boolean name = text.toString().matches("B([.-]?B)*");
                due("whether " + text + " is a name", reading(text.toString()) == 1 ? 1 : 0, name ? 1 : 0);
            }
        }
    }

    @Bound(promise = 17, in = "SIGNS", says = "A sign has a width, an openness, and ink: "
            + "a letter 3 + k * 5 % 7, k % 3, and 1 + k * 3 % 5; \".\" has 2, 2, 1; \"-\" has 4, 2, 2.")
    static void theNumbersOfAll28Signs() {
        for (int k = 0; k < SIGNS.length(); k++) {
            NamePlate plate = with("A" + SIGNS.charAt(k) + "A");
            due("width of " + SIGNS.charAt(k), plate.sign(0, 1, 2), WIDTHS[k]);
            due("space behind " + SIGNS.charAt(k), plate.sign(0, 1, 3), 6 - OPEN[k]);
            due("ink of A, " + SIGNS.charAt(k) + " and A", plate.name(0, 10), INKS[k] + 2);
        }
    }

    @Bound(promise = 17, in = "SIGNS", says = {
        "The space between a sign and the next one is 6, minus the openness of both, plus the adjustment of this pair "
            + "of signs (at first 0, from -3 to 3), but at least 1 by all this.",
        "The eye's measure of a space is this space plus the openness of both."})
    static void theSpacesOfAllPairs() {
        for (int left = 0; left < SIGNS.length(); left++) {
            for (int right = 0; right < (left < FIRST_MARK ? SIGNS.length() : FIRST_MARK); right++) {
                String pair = "" + SIGNS.charAt(left) + SIGNS.charAt(right);
                NamePlate plate = with("A" + pair + "A");
                due("space at first of " + pair, plate.sign(0, 1, 3), Math.max(1, 6 - OPEN[left] - OPEN[right]));
                for (int by : new int[] {-3, -2, -1, 1, 2, 3}) {
                    plate.adjust(pair.charAt(0), pair.charAt(1), by);
                    int space = Math.max(1, 6 - OPEN[left] - OPEN[right] + by);
                    due("space of " + pair + " by " + by, plate.sign(0, 1, 3), space);
                    due("measure of " + pair + " by " + by, plate.sign(0, 1, 4), space + OPEN[left] + OPEN[right]);
                }
            }
        }
    }

    // ---- PLATE

    @Bound(promise = 26, in = "PLATE", says = "The plate has a width (300 to 6000, at first 2000), "
            + "a height (100 to 3000, at first 1000), a margin (0 to 100, at first 20) and 1 to 3 columns (at first 1).")
    static void thePlateHasFourNumbers() {
        NamePlate plate = new NamePlate();
        plate.recut(1234, 567);
        plate.setMargin(89);
        plate.setColumns(3);
        int[] due = {1234, 567, 89, 3};
        for (int what = 0; what < due.length; what++) {
            due("count " + what, plate.count(what), due[what]);
        }
    }

    @Bound(promise = 16, in = "PLATE", says = "Lengths on the plate are whole points.")
    static void aColumnsWidthIsRoundedBeforeTheNextOneBegins() {
        NamePlate plate = with("A.C-E;A.C-E;A.C-E", 40 + 962, 1000);
        plate.setColumns(3);
        due("size", plate.size(), 9);
        // A third of 962 is 320 2/3: the last column has 320 points from 660, and 315 of them are taken.
        due("in the middle of the last column", plate.name(2, 9), 662);
    }

    @Bound(promise = 16, in = "PLATE", says = "A name of u units is u * size points wide at a size; "
            + "a row is 12 * size points high; the row r begins at margin + 12 * size * r.")
    static void namesAndRowsAtEachSize() {
        NamePlate plate = with("A.C-E;B");
        plate.setMargin(38);
        for (int size = 1; size <= 40; size++) {
            plate.recut(2000, 76 + 2 * 12 * size);
            due("size", plate.size(), size);
            due("35 units at " + size, plate.name(0, 8), 35 * size);
            due("8 units at " + size, plate.name(1, 8), 8 * size);
            due("second row at " + size, plate.name(1, 6), 38 + 12 * size);
        }
    }

    @Bound(promise = 16, in = "PLATE", says = "A name fits at a size if it is not wider than a column, "
            + "and the rows up to its own one are not higher than the height - 2 * margin.")
    static void aNameHasToFitByItsWidthAndByItsRow() {
        NamePlate plate = withEngraved();
        read(plate, "B;B;" + SIXTEEN);
        due("narrow and in the first two rows", plate.name(1, 7), 1);
        due("narrow and in the third row", plate.name(2, 7), 0);
        due("wide and in the fourth row", plate.name(3, 7), 0);
        plate.swap(1, 3);
        due("wide and in the second row", plate.name(1, 7), 0);
    }

    // ---- CENTRE

    @Bound(promise = 16, in = "CENTRE", says = "A name is set so that its ink is in the middle of its column: "
            + "let S be the sum of the inks of its signs, and T the sum of ink * (2 * (units from the beginning of the name "
            + "to the beginning of the sign) + width) over its signs; ")
    static void theInkIsInTheMiddleOfTheColumn() {
        // Names of less than 70 units, which are far from the ends of a column of 2930 points at the size 20.
        String[] names = {"A", "DA", "AD", "A.C-E", "X-Y.Z", "MMAAAA", "AAAAMM", "Q.Q"};
        NamePlate plate = with(String.join(";", names), 6000, 40 + 4 * 12 * 20);
        plate.setColumns(2);
        due("size", plate.size(), 20);
        for (int seat = 0; seat < names.length; seat++) {
            int before = 0;
            int inks = 0;
            int lean = 0;
            for (int index = 0; index < names[seat].length(); index++) {
                int k = SIGNS.indexOf(names[seat].charAt(index));
                int twiceMiddle = 2 * (plate.name(seat, 5) + before * 20) + WIDTHS[k] * 20;
                inks += INKS[k];
                lean += INKS[k] * (twiceMiddle - (2 * (20 + seat % 2 * 2980) + 2980));
                before += WIDTHS[k] + Math.max(0, plate.sign(seat, index, 3));
            }
            Check.holds(names[seat] + " leans to the left or stands in the middle", lean <= 0);
            Check.holds(names[seat] + " would lean to the right one point on", lean + 2 * inks > 0);
        }
    }

    // ---- ENGRAVING, HISTORY, ERRORS

    @Bound(promise = 11, in = "ENGRAVING", says = "What is engraved is not altered: as long as any name is engraved, "
            + "margin and columns stay; seats of engraved names stay; "
            + "and the adjustment of a pair stays if any engraved name has this pair.")
    static void whatWouldAlterAnEngravedNameIsRefused() {
        dueUnchanged("setMargin", Bounds::rich, plate -> plate.setMargin(0), NOT_POSSIBLE);
        dueUnchanged("setColumns", Bounds::rich, plate -> plate.setColumns(3), NOT_POSSIBLE);
        dueUnchanged("remove", Bounds::rich, plate -> plate.remove(0), NOT_POSSIBLE);
        dueUnchanged("swap", Bounds::rich, plate -> plate.swap(0, 2), NOT_POSSIBLE);
        dueUnchanged("adjust", Bounds::rich, plate -> plate.adjust('A', 'B', 0), NOT_POSSIBLE);
    }

    @Bound(promise = 13, in = "HISTORY", says = "Each call of a method that is described as an act, and returns no error "
            + "and not NONE, records the state that was before it.")
    static void eachActIsUndone() {
        dueUndone("recut", plate -> plate.recut(700, 800));
        dueUndone("setMargin", plate -> plate.setMargin(7));
        dueUndone("setColumns", plate -> plate.setColumns(3));
        dueUndone("adjust", plate -> plate.adjust('C', 'D', -1));
        dueUndone("adjust to 0", plate -> plate.adjust('A', 'B', 0));
        dueUndone("readNames", NamePlate::readNames);
        dueUndone("remove", plate -> plate.remove(0));
        dueUndone("swap", plate -> plate.swap(0, 1));
        dueUndone("engrave", plate -> plate.engrave(1));
        dueUndone("engraveAll", NamePlate::engraveAll);
        dueUndone("restore", NamePlate::restore);
    }

    /** The act is recorded, alters what is told, and what undo() brings back is what was before. */
    private static void dueUndone(String act, ToIntFunction<NamePlate> call) {
        NamePlate plate = free();
        NamePlate before = free();
        Check.holds(act + " is no error", call.applyAsInt(plate) >= -3);
        due("history behind " + act, plate.count(10), before.count(10) + 1);
        due("undo " + act, plate.undo(), before.count(10));
        dueAlike("undone", act, plate, before);
    }

    @Bound(promise = 16, in = "ERRORS", says = {"Errors are reported by the constants below.", "The constants:",
        "`UNKNOWN = -1001`: There is no such seat or sign.", "`BAD_VALUE = -1002`: Another argument is out of range.",
        "`FULL = -1003`: There is no more room.", "`NOT_POSSIBLE = -1004`: This is not possible.",
        "`NONE = -1005`: There is no such thing; not an error."})
    static void eachConstantIsAnswered() {
        NamePlate plate = withEngraved();
        due("no such seat", plate.name(1, 0), -1001);
        due("no such sign", plate.sign(0, 1, 0), -1001);
        due("no such sign of a pair", plate.adjustment('a', 'A'), -1001);
        due("another argument", plate.name(0, 11), -1002);
        Plates.text(plate, "A;".repeat(30));
        due("no more room", plate.type('A'), -1003);
        due("not possible", plate.setMargin(3), -1004);
        due("no such thing", plate.engrave(0), -1005);
    }

    // ---- promises 2 to 11

    @Bound(promise = 2, says = {"Cuts the plate anew; nothing is engraved then.",
        "Returns how many engraved names are lost; BAD_VALUE."})
    static void thePlateIsCutAnew() {
        NamePlate plate = withLetters(3);
        plate.engrave(2);
        plate.engrave(0);
        due("a height out of range", plate.recut(500, 3001), BAD_VALUE);
        due("recut", plate.recut(500, 600), 2);
        due("width", plate.count(0), 500);
        due("height", plate.count(1), 600);
        due("engraved", plate.count(5), 0);
        due("names", plate.count(4), 3);
    }

    @Bound(promise = 3, says = "Sets the margin. This is an act.")
    static void theMarginIsSetByAnAct() {
        NamePlate plate = new NamePlate();
        due("setMargin", plate.setMargin(33), 20);
        due("margin", plate.count(2), 33);
        due("states", plate.count(10), 1);
    }

    @Bound(promise = 4, says = "Sets the number of columns. This is an act.")
    static void theColumnsAreSetByAnAct() {
        NamePlate plate = new NamePlate();
        due("setColumns", plate.setColumns(2), 1);
        due("columns", plate.count(3), 2);
        due("states", plate.count(10), 1);
    }

    @Bound(promise = 5, says = "Sets the adjustment of a pair of signs. This is an act.")
    static void anAdjustmentIsSetByAnAct() {
        NamePlate plate = new NamePlate();
        due("adjust", plate.adjust('T', '.', -2), 0);
        due("adjustment", plate.adjustment('T', '.'), -2);
        due("adjustment of the pair turned round", plate.adjustment('.', 'T'), 0);
        due("states", plate.count(10), 1);
    }

    @Bound(promise = 6, says = "Types a character behind the text.")
    static void aCharacterIsTypedBehindTheText() {
        NamePlate plate = new NamePlate();
        due("T", plate.type('T'), 1);
        due("O", plate.type('O'), 2);
        due("read", plate.readNames(), 1);
        Plates.dueNames("read", plate, "TO");
        due("M", plate.type('M'), 3);
        due("read again", plate.readNames(), 1);
        Plates.dueNames("read again", plate, "TO", "TOM");
    }

    @Bound(promise = 9, says = "Removes a name; those behind it come one seat earlier. This is an act.")
    static void aNameIsRemovedByAnAct() {
        NamePlate plate = with("AB;C;D.E");
        due("remove", plate.remove(1), 2);
        Plates.dueNames("then", plate, "AB", "D.E");
        due("states", plate.count(10), 2);
    }

    @Bound(promise = 10, says = "Exchanges the names of two seats. This is an act.")
    static void namesAreExchangedByAnAct() {
        NamePlate plate = with("AB;C;D.E");
        due("swap", plate.swap(2, 0), 26);
        Plates.dueNames("then", plate, "D.E", "C", "AB");
        due("states", plate.count(10), 2);
    }

    @Bound(promise = 11, says = "Engraves a name. This is an act.")
    static void aNameIsEngravedByAnAct() {
        NamePlate plate = with("A.C-E;B");
        due("engrave", plate.engrave(0), 240);
        due("engraved", plate.name(0, 2), 1);
        due("the other one", plate.name(1, 2), 0);
        due("states", plate.count(10), 2);
    }

    // ---- promises 16 to 26

    @Bound(promise = 16, says = "`what`: 0 for the number of its signs, 1 for its units, 2 for whether it is engraved "
            + "(1, otherwise 0), 3 for its row, 4 for its column, 5 for where it begins (or would begin, if it is not engraved), "
            + "6 for where its row begins, 7 for whether it fits at the size (1; 0 if not, or the size is 0), "
            + "8 for its width in points, 9 for where it would begin if it were set in the middle of its column by its width "
            + "(rounded down; not to the left of the column), 10 for its ink")
    static void theElevenNumbersOfAName() {
        NamePlate plate = with("B;B;B;A.C-E", 1041, 300);
        plate.setColumns(2);
        // Columns of 500 points; two rows on 260 points: size 10. S is 9 and T 342: (9 * 1540 - 10 * 342) / 18.
        int[] due = {5, 35, 0, 1, 1, 580, 140, 1, 350, 595, 9};
        for (int what = 0; what < due.length; what++) {
            due("name 3, " + what, plate.name(3, what), due[what]);
        }
        due("engrave", plate.engrave(3), 580);
        due("engraved", plate.name(3, 2), 1);
    }

    @Bound(promise = 17, says = "`what`: 0 for the code of the sign, 1 for the units from the beginning of the name to it, "
            + "2 for its width in units, 3 for the space behind it, 4 for the eye's measure of this space "
            + "(3 and 4: NONE for the last sign), 5 for where it begins on the plate (NONE if the size is 0)")
    static void theSixNumbersOfASign() {
        NamePlate plate = with("A.C-E");
        plate.adjust('C', '-', 2);
        // S is 9, and T 362 by two units more behind C: (9 * 2000 - 40 * 362) / 18 is 195.6.
        int[] due = {'C', 11, 6, 4, 8, 195 + 40 * 11};
        for (int what = 0; what < due.length; what++) {
            due("sign 2, " + what, plate.sign(0, 2, what), due[what]);
        }
    }

    @Bound(promise = 20, says = "Returns the size, 0 if there is none; BAD_VALUE.")
    static void theSizeOfAPlateCutAnewIsTold() {
        NamePlate plate = with(SIXTEEN);
        plate.setColumns(3);
        due("the greatest plate", plate.sizeBy(6000, 3000), 12);
        due("too narrow", plate.sizeBy(300, 3000), 0);
        due("no plate", plate.sizeBy(299, 3000), BAD_VALUE);
    }

    @Bound(promise = 21, says = "Returns the size, 0 if there is none; UNKNOWN.")
    static void theSizeWithoutANameIsTold() {
        NamePlate plate = with("A;" + SIXTEEN, 300, 3000);
        plate.setColumns(3);
        due("without the long one", plate.sizeWithout(1), 28);
        due("without the short one", plate.sizeWithout(0), 0);
        due("without no one", plate.sizeWithout(2), UNKNOWN);
    }

    @Bound(promise = 25, says = "Returns the number; BAD_VALUE")
    static void theThreeNumbersOfAPair() {
        NamePlate plate = new NamePlate();
        plate.adjust('B', '-', 3);
        plate.adjust('.', 'Q', -2);
        due("left", plate.pair(1, 0), '.');
        due("right", plate.pair(1, 1), 'Q');
        due("adjustment", plate.pair(1, 2), -2);
        due("no number", plate.pair(1, 3), BAD_VALUE);
    }

    @Bound(promise = 26, says = {"`what`: 0 for the width, 1 for the height, 2 for the margin, 3 for the columns",
        "Returns the number; BAD_VALUE."})
    static void theNumbersOfThePlateAreTold() {
        NamePlate plate = rich();
        plate.recut(1500, 900);
        int[] due = {1500, 900, 20, 2, 3, 0, 2, 1, 1, 1, 5, 3};
        for (int what = 0; what < due.length; what++) {
            due("count " + what, plate.count(what), due[what]);
        }
        due("no count", plate.count(12), BAD_VALUE);
    }
}
