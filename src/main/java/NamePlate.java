/** A plate on which names for seats are engraved; ../shared/DOC.md says what each call promises. */
public final class NamePlate {

    public static final int UNKNOWN = -1001;
    public static final int BAD_VALUE = -1002;
    public static final int FULL = -1003;
    public static final int NOT_POSSIBLE = -1004;
    public static final int NONE = -1005;

    private static final int LEAST_WIDTH = 300;
    private static final int MOST_WIDTH = 6000;
    private static final int LEAST_HEIGHT = 100;
    private static final int MOST_HEIGHT = 3000;
    private static final int MOST_MARGIN = 100;
    private static final int MOST_COLUMNS = 3;
    private static final int MOST_ADJUSTMENT = 3;
    private static final int MOST_PAIRS = 16;
    private static final int MOST_NAMES = 20;
    private static final int MOST_SIGNS = 16;
    private static final int MOST_CHARACTERS = 60;
    private static final int MOST_STATES = 5;
    private static final int GREATEST_SIZE = 40;
    private static final int ROW_UNITS = 12;
    private static final int FAULT_BASE = -100;
    private static final int NO_SEAT = -1;
    private static final int NO_FAULT = -1;
    private static final char BETWEEN_NAMES = ';';

    private final State now;
    private final State snapshot;
    private final History history;
    private final Text text;
    private boolean hasSnapshot;

    public NamePlate() {
        now = new State();
        snapshot = new State();
        history = new History();
        text = new Text();
        hasSnapshot = false;
    }

    // ---- the plate

    public int recut(int width, int height) {
        if (!isPlate(width, height)) {
            return BAD_VALUE;
        }
        history.record(now);
        return now.cutAnew(width, height);
    }

    public int setMargin(int margin) {
        if (margin < 0 || margin > MOST_MARGIN) {
            return BAD_VALUE;
        }
        if (now.hasEngraved()) {
            return NOT_POSSIBLE;
        }
        int previous = now.margin;
        if (previous == margin) {
            return NONE;
        }
        history.record(now);
        now.margin = margin;
        return previous;
    }

    public int setColumns(int columns) {
        if (columns < 1 || columns > MOST_COLUMNS) {
            return BAD_VALUE;
        }
        if (now.hasEngraved()) {
            return NOT_POSSIBLE;
        }
        int previous = now.columns;
        if (previous == columns) {
            return NONE;
        }
        history.record(now);
        now.columns = columns;
        return previous;
    }

    public int adjust(char left, char right, int by) {
        if (!Sign.isKnown(left) || !Sign.isKnown(right)) {
            return UNKNOWN;
        }
        if (by < -MOST_ADJUSTMENT || by > MOST_ADJUSTMENT) {
            return BAD_VALUE;
        }
        if (now.isEngravedPair(left, right)) {
            return NOT_POSSIBLE;
        }
        int previous = now.adjustmentOf(left, right);
        if (previous == by) {
            return NONE;
        }
        if (previous == 0 && now.pairs.isFull()) {
            return FULL;
        }
        history.record(now);
        now.pairs.put(left, right, by);
        return previous;
    }

    // ---- texts and names

    public int type(char character) {
        if (text.isFull()) {
            return FULL;
        }
        text.append(character);
        return text.length;
    }

    public int clearText() {
        int previous = text.length;
        text.length = 0;
        return previous;
    }

    public int readNames() {
        int fault = text.fault();
        if (fault != NO_FAULT) {
            return FAULT_BASE - fault;
        }
        int added = text.namesInIt();
        if (now.names.number + added > MOST_NAMES) {
            return FULL;
        }
        history.record(now);
        addNamesOfText();
        return added;
    }

    private void addNamesOfText() {
        now.names.begin();
        for (int at = 0; at < text.length; at++) {
            char character = text.characterAt(at);
            if (character == BETWEEN_NAMES) {
                now.names.begin();
            } else {
                now.names.append(character);
            }
        }
    }

    public int remove(int seat) {
        if (!now.names.isTaken(seat)) {
            return UNKNOWN;
        }
        if (now.isEngravedFrom(seat)) {
            return NOT_POSSIBLE;
        }
        history.record(now);
        now.names.takeOut(seat);
        return now.names.number;
    }

    public int swap(int seat, int other) {
        if (!now.names.isTaken(seat) || !now.names.isTaken(other)) {
            return UNKNOWN;
        }
        if (now.isEngraved(seat) || now.isEngraved(other)) {
            return NOT_POSSIBLE;
        }
        if (seat == other) {
            return NONE;
        }
        history.record(now);
        now.names.exchange(seat, other);
        return now.sizeNow();
    }

    // ---- engraving

    public int engrave(int seat) {
        if (!now.names.isTaken(seat)) {
            return UNKNOWN;
        }
        int size = now.sizeNow();
        if (!now.fits(seat, size)) {
            return NOT_POSSIBLE;
        }
        if (now.isEngraved(seat)) {
            return NONE;
        }
        history.record(now);
        now.markEngraved(1 << seat, size);
        return now.beginOf(seat, size);
    }

    public int engraveAll() {
        int size = now.sizeNow();
        int seats = now.engravableSeats(size);
        if (seats == 0) {
            return NONE;
        }
        history.record(now);
        now.markEngraved(seats, size);
        return Integer.bitCount(seats);
    }

    // ---- history

    public int undo() {
        if (history.number == 0) {
            return NONE;
        }
        history.takeLatest(now);
        return history.number;
    }

    public int keep() {
        snapshot.copyFrom(now);
        hasSnapshot = true;
        return now.names.number;
    }

    public int restore() {
        if (!hasSnapshot) {
            return NONE;
        }
        history.record(now);
        now.copyFrom(snapshot);
        return now.names.number;
    }

    // ---- what is told

    public int name(int seat, int what) {
        if (!now.names.isTaken(seat)) {
            return UNKNOWN;
        }
        switch (what) {
            case 0:
                return now.names.lengthOf(seat);
            case 1:
                return now.unitsOf(seat);
            case 2:
                return now.isEngraved(seat) ? 1 : 0;
            case 3:
                return now.rowOf(seat);
            case 4:
                return now.columnOf(seat);
            case 10:
                return now.inkOf(seat);
            default:
                return nameBySize(seat, what, now.sizeNow());
        }
    }

    private int nameBySize(int seat, int what, int size) {
        if (what < 5 || what > 9) {
            return BAD_VALUE;
        }
        if (what == 7) {
            return now.fits(seat, size) ? 1 : 0;
        }
        if (size == 0) {
            return NONE;
        }
        switch (what) {
            case 5:
                return now.beginOf(seat, size);
            case 6:
                return now.rowBegin(seat, size);
            case 8:
                return now.unitsOf(seat) * size;
            default:
                return now.middleBegin(seat, size);
        }
    }

    public int sign(int seat, int index, int what) {
        if (!now.names.isIn(seat, index)) {
            return UNKNOWN;
        }
        char code = now.names.codeAt(seat, index);
        switch (what) {
            case 0:
                return code;
            case 1:
                return now.unitsBefore(seat, index);
            case 2:
                return Sign.width(code);
            case 3:
                return now.names.isLast(seat, index) ? NONE : now.spaceBehind(seat, index);
            case 4:
                return now.names.isLast(seat, index) ? NONE : now.measuredSpace(seat, index);
            case 5:
                return signBegin(seat, index, now.sizeNow());
            default:
                return BAD_VALUE;
        }
    }

    private int signBegin(int seat, int index, int size) {
        if (size == 0) {
            return NONE;
        }
        return now.beginOf(seat, size) + now.unitsBefore(seat, index) * size;
    }

    public int signAt(int x, int y) {
        if (x < 0 || y < 0) {
            return BAD_VALUE;
        }
        int size = now.sizeNow();
        if (size == 0) {
            return NONE;
        }
        for (int seat = 0; seat < now.names.number; seat++) {
            int top = now.rowBegin(seat, size);
            if (y >= top && y < top + ROW_UNITS * size) {
                int index = now.indexAt(seat, x, size);
                if (index >= 0) {
                    return 100 * seat + index;
                }
            }
        }
        return NONE;
    }

    public int size() {
        return now.sizeNow();
    }

    public int sizeBy(int width, int height) {
        if (!isPlate(width, height)) {
            return BAD_VALUE;
        }
        return now.greatestSize(width, height, now.names.number, now.mostUnits(NO_SEAT));
    }

    public int sizeWithout(int seat) {
        if (!now.names.isTaken(seat)) {
            return UNKNOWN;
        }
        return now.greatestSize(now.width, now.height, now.names.number - 1, now.mostUnits(seat));
    }

    public int leastWidth(int size) {
        if (size < 1 || size > GREATEST_SIZE) {
            return BAD_VALUE;
        }
        if (now.names.number == 0) {
            return NONE;
        }
        int needed = 2 * now.margin + now.columns * now.mostUnits(NO_SEAT) * size;
        return Math.max(LEAST_WIDTH, needed);
    }

    public int longest() {
        int most = now.mostUnits(NO_SEAT);
        for (int seat = 0; seat < now.names.number; seat++) {
            if (now.unitsOf(seat) == most) {
                return seat;
            }
        }
        return NONE;
    }

    public int adjustment(char left, char right) {
        if (!Sign.isKnown(left) || !Sign.isKnown(right)) {
            return UNKNOWN;
        }
        return now.adjustmentOf(left, right);
    }

    public int pair(int place, int what) {
        if (place < 0 || what < 0 || what > 2) {
            return BAD_VALUE;
        }
        if (!now.pairs.isPlace(place)) {
            return NONE;
        }
        switch (what) {
            case 0:
                return now.pairs.leftAt(place);
            case 1:
                return now.pairs.rightAt(place);
            default:
                return now.pairs.adjustmentAt(place);
        }
    }

    public int count(int what) {
        switch (what) {
            case 0:
                return now.width;
            case 1:
                return now.height;
            case 2:
                return now.margin;
            case 3:
                return now.columns;
            case 4:
                return now.names.number;
            case 5:
                return now.engravedNames();
            case 6:
                return now.rowsFor(now.names.number);
            case 7:
                return now.cuts;
            case 8:
                return now.lost;
            case 9:
                return now.pairs.number;
            case 10:
                return history.number;
            case 11:
                return text.length;
            default:
                return BAD_VALUE;
        }
    }

    private static boolean isPlate(int width, int height) {
        return width >= LEAST_WIDTH && width <= MOST_WIDTH
                && height >= LEAST_HEIGHT && height <= MOST_HEIGHT;
    }

    /** What is told of the single signs; it holds for capital letters, "." and "-" alone. */
    private static final class Sign {

        static boolean isLetter(char code) {
            return code >= 'A' && code <= 'Z';
        }

        static boolean isMark(char code) {
            return code == '.' || code == '-';
        }

        static boolean isKnown(char code) {
            return isLetter(code) || isMark(code);
        }

        static int width(char code) {
            if (code == '.') {
                return 2;
            }
            if (code == '-') {
                return 4;
            }
            return 3 + (code - 'A') * 5 % 7;
        }

        static int openness(char code) {
            if (code == '.' || code == '-') {
                return 2;
            }
            return (code - 'A') % 3;
        }

        static int ink(char code) {
            if (code == '.') {
                return 1;
            }
            if (code == '-') {
                return 2;
            }
            return 1 + (code - 'A') * 3 % 5;
        }
    }

    /** The typed text and its fault. */
    private static final class Text {

        private final char[] characters = new char[MOST_CHARACTERS];
        private int length = 0;

        boolean isFull() {
            return length >= MOST_CHARACTERS;
        }

        void append(char character) {
            if (length >= 0 && length < characters.length) {
                characters[length] = character;
                length++;
            }
        }

        char characterAt(int at) {
            return at >= 0 && at < characters.length ? characters[at] : BETWEEN_NAMES;
        }

        int namesInIt() {
            int found = 1;
            for (int at = 0; at < length; at++) {
                if (characterAt(at) == BETWEEN_NAMES) {
                    found++;
                }
            }
            return found;
        }

        int fault() {
            int signs = 0;
            boolean behindLetter = false;
            for (int at = 0; at < length; at++) {
                char character = characterAt(at);
                if (!isAllowed(character, signs, behindLetter)) {
                    return at;
                }
                signs = character == BETWEEN_NAMES ? 0 : signs + 1;
                behindLetter = Sign.isLetter(character);
            }
            return behindLetter ? NO_FAULT : length;
        }

        private static boolean isAllowed(char character, int signs, boolean behindLetter) {
            if (character == BETWEEN_NAMES) {
                return behindLetter;
            }
            if (signs >= MOST_SIGNS) {
                return false;
            }
            return Sign.isLetter(character) || (behindLetter && Sign.isMark(character));
        }
    }

    /** The names by their seats; all signs lie in one row, each seat with room for the longest name. */
    private static final class Names {

        private final char[] codes = new char[MOST_NAMES * MOST_SIGNS];
        private final int[] lengths = new int[MOST_NAMES];
        private int number = 0;

        void copyFrom(Names other) {
            System.arraycopy(other.codes, 0, codes, 0, codes.length);
            System.arraycopy(other.lengths, 0, lengths, 0, lengths.length);
            number = other.number;
        }

        boolean isTaken(int seat) {
            return seat >= 0 && seat < number && seat < MOST_NAMES;
        }

        boolean isIn(int seat, int index) {
            return isTaken(seat) && index >= 0 && index < lengthOf(seat);
        }

        boolean isLast(int seat, int index) {
            return index == lengthOf(seat) - 1;
        }

        int lengthOf(int seat) {
            return seat >= 0 && seat < lengths.length ? lengths[seat] : 0;
        }

        char codeAt(int seat, int index) {
            int at = seat * MOST_SIGNS + index;
            return at >= 0 && at < codes.length ? codes[at] : BETWEEN_NAMES;
        }

        void begin() {
            if (number >= 0 && number < MOST_NAMES) {
                lengths[number] = 0;
                number++;
            }
        }

        void append(char code) {
            int seat = number - 1;
            if (isTaken(seat) && lengths[seat] >= 0 && lengths[seat] < MOST_SIGNS) {
                codes[seat * MOST_SIGNS + lengths[seat]] = code;
                lengths[seat]++;
            }
        }

        void takeOut(int seat) {
            if (!isTaken(seat)) {
                return;
            }
            for (int behind = seat + 1; behind < number && behind < MOST_NAMES; behind++) {
                exchange(behind - 1, behind);
            }
            number--;
        }

        void exchange(int seat, int other) {
            if (!isTaken(seat) || !isTaken(other)) {
                return;
            }
            for (int index = 0; index < MOST_SIGNS; index++) {
                char code = codes[seat * MOST_SIGNS + index];
                codes[seat * MOST_SIGNS + index] = codes[other * MOST_SIGNS + index];
                codes[other * MOST_SIGNS + index] = code;
            }
            int length = lengths[seat];
            lengths[seat] = lengths[other];
            lengths[other] = length;
        }
    }

    /** The pairs whose adjustment is not 0, in the order in which they got one. */
    private static final class Pairs {

        private final char[] lefts = new char[MOST_PAIRS];
        private final char[] rights = new char[MOST_PAIRS];
        private final int[] adjustments = new int[MOST_PAIRS];
        private int number = 0;

        void copyFrom(Pairs other) {
            System.arraycopy(other.lefts, 0, lefts, 0, lefts.length);
            System.arraycopy(other.rights, 0, rights, 0, rights.length);
            System.arraycopy(other.adjustments, 0, adjustments, 0, adjustments.length);
            number = other.number;
        }

        boolean isFull() {
            return number >= MOST_PAIRS;
        }

        boolean isPlace(int place) {
            return place >= 0 && place < number && place < MOST_PAIRS;
        }

        char leftAt(int place) {
            return isPlace(place) ? lefts[place] : BETWEEN_NAMES;
        }

        char rightAt(int place) {
            return isPlace(place) ? rights[place] : BETWEEN_NAMES;
        }

        /** 0 behind the last place, so that it serves a pair that is not among these. */
        int adjustmentAt(int place) {
            return place >= 0 && place < number && place < MOST_PAIRS ? adjustments[place] : 0;
        }

        /** The place of a pair; the place behind the last one if the pair is not among these. */
        int placeOf(char left, char right) {
            for (int place = 0; place < number && place < MOST_PAIRS; place++) {
                if (lefts[place] == left && rights[place] == right) {
                    return place;
                }
            }
            return number;
        }

        void put(char left, char right, int by) {
            int place = placeOf(left, right);
            if (isPlace(place) && by != 0) {
                adjustments[place] = by;
            } else if (isPlace(place)) {
                takeOut(place);
            } else if (by != 0) {
                append(left, right, by);
            }
        }

        private void append(char left, char right, int by) {
            if (number >= 0 && number < MOST_PAIRS) {
                lefts[number] = left;
                rights[number] = right;
                adjustments[number] = by;
                number++;
            }
        }

        private void takeOut(int place) {
            for (int behind = place + 1; behind < number && behind < MOST_PAIRS; behind++) {
                lefts[behind - 1] = lefts[behind];
                rights[behind - 1] = rights[behind];
                adjustments[behind - 1] = adjustments[behind];
            }
            number--;
        }
    }

    /** All that undo() and restore() bring back. */
    private static final class State {

        private final Names names = new Names();
        private final Pairs pairs = new Pairs();
        private int width = 2000;
        private int height = 1000;
        private int margin = 20;
        private int columns = 1;
        /** Bit k is set if the name in the seat k is engraved. */
        private int engraved = 0;
        private int engravedSize = 0;
        private int cuts = 0;
        private int lost = 0;

        void copyFrom(State other) {
            names.copyFrom(other.names);
            pairs.copyFrom(other.pairs);
            width = other.width;
            height = other.height;
            margin = other.margin;
            columns = other.columns;
            engraved = other.engraved;
            engravedSize = other.engravedSize;
            cuts = other.cuts;
            lost = other.lost;
        }

        int cutAnew(int newWidth, int newHeight) {
            int lostNow = engravedNames();
            width = newWidth;
            height = newHeight;
            engraved = 0;
            cuts++;
            lost += lostNow;
            return lostNow;
        }

        // ---- what is engraved

        boolean hasEngraved() {
            return engraved != 0;
        }

        int engravedNames() {
            return Integer.bitCount(engraved);
        }

        boolean isEngraved(int seat) {
            return (engraved >> seat & 1) != 0;
        }

        /** Whether the name of this seat, or any behind it, is engraved. */
        boolean isEngravedFrom(int seat) {
            return engraved >> seat != 0;
        }

        /** Bit k of the answer is set if the name in the seat k is not engraved and fits. */
        int engravableSeats(int size) {
            int seats = 0;
            for (int seat = 0; seat < names.number; seat++) {
                if (!isEngraved(seat) && fits(seat, size)) {
                    seats |= 1 << seat;
                }
            }
            return seats;
        }

        /** Takes seats as bits; a later name is engraved at the size of the first one by sizeNow(). */
        void markEngraved(int seats, int size) {
            engraved |= seats;
            engravedSize = size;
        }

        boolean isEngravedPair(char left, char right) {
            for (int seat = 0; seat < names.number; seat++) {
                if (isEngraved(seat) && hasPair(seat, left, right)) {
                    return true;
                }
            }
            return false;
        }

        private boolean hasPair(int seat, char left, char right) {
            for (int index = 1; index < names.lengthOf(seat); index++) {
                if (names.codeAt(seat, index - 1) == left && names.codeAt(seat, index) == right) {
                    return true;
                }
            }
            return false;
        }

        // ---- units

        int adjustmentOf(char left, char right) {
            return pairs.adjustmentAt(pairs.placeOf(left, right));
        }

        /** The space to the next sign, 0 behind the last one. */
        int spaceBehind(int seat, int index) {
            if (index + 1 >= names.lengthOf(seat)) {
                return 0;
            }
            char left = names.codeAt(seat, index);
            char right = names.codeAt(seat, index + 1);
            int adjustment = pairs.adjustmentAt(pairs.placeOf(left, right));
            return Math.max(1, 6 - Sign.openness(left) - Sign.openness(right) + adjustment);
        }

        int measuredSpace(int seat, int index) {
            return spaceBehind(seat, index)
                    + Sign.openness(names.codeAt(seat, index))
                    + Sign.openness(names.codeAt(seat, index + 1));
        }

        int unitsBefore(int seat, int index) {
            int units = 0;
            for (int before = 0; before < index && before < MOST_SIGNS; before++) {
                units += Sign.width(names.codeAt(seat, before)) + spaceBehind(seat, before);
            }
            return units;
        }

        int unitsOf(int seat) {
            return unitsBefore(seat, names.lengthOf(seat));
        }

        int inkOf(int seat) {
            int ink = 0;
            for (int index = 0; index < names.lengthOf(seat); index++) {
                ink += Sign.ink(names.codeAt(seat, index));
            }
            return ink;
        }

        /** The units of the longest name, the one of the seat left out not counted; 0 without names. */
        int mostUnits(int leftOut) {
            int most = 0;
            for (int seat = 0; seat < names.number; seat++) {
                if (seat != leftOut) {
                    most = Math.max(most, unitsOf(seat));
                }
            }
            return most;
        }

        // ---- rows and columns

        int rowOf(int seat) {
            return quotient(seat, columns);
        }

        int columnOf(int seat) {
            return columns > 0 ? seat % columns : 0;
        }

        int rowsFor(int seats) {
            return quotient(seats + columns - 1, columns);
        }

        int rowBegin(int seat, int size) {
            return margin + ROW_UNITS * size * rowOf(seat);
        }

        int columnWidth(int plateWidth) {
            return quotient(plateWidth - 2 * margin, columns);
        }

        int columnBegin(int seat) {
            return margin + columnOf(seat) * columnWidth(width);
        }

        // ---- sizes

        int sizeNow() {
            if (hasEngraved()) {
                return engravedSize;
            }
            return greatestSize(width, height, names.number, mostUnits(NO_SEAT));
        }

        /** The size of a plate with nothing engraved, by its number of names and the longest one's units. */
        int greatestSize(int plateWidth, int plateHeight, int seats, int unitsWide) {
            // A plate that is all margin has less than no room, but size 40 all the same without names.
            if (seats == 0) {
                return GREATEST_SIZE;
            }
            int unitsHigh = ROW_UNITS * rowsFor(seats);
            for (int size = GREATEST_SIZE; size >= 1; size--) {
                if (unitsWide * size <= columnWidth(plateWidth)
                        && unitsHigh * size <= plateHeight - 2 * margin) {
                    return size;
                }
            }
            return 0;
        }

        boolean fits(int seat, int size) {
            return size > 0
                    && unitsOf(seat) * size <= columnWidth(width)
                    && ROW_UNITS * size * (rowOf(seat) + 1) <= height - 2 * margin;
        }

        // ---- where names and signs begin

        /** Where a name begins that is centred by its ink. */
        int beginOf(int seat, int size) {
            int room = columnWidth(width);
            int left = columnBegin(seat);
            int ink = inkOf(seat);
            int twiceInk = 2 * ink;
            int begin = quotient(ink * (2 * left + room) - size * twiceInkMoment(seat), twiceInk);
            int last = left + room - unitsOf(seat) * size;
            return Math.max(left, Math.min(begin, last));
        }

        /** The sum T of the document: the inks, each times twice the distance of its sign's middle. */
        private int twiceInkMoment(int seat) {
            int moment = 0;
            int before = 0;
            for (int index = 0; index < names.lengthOf(seat); index++) {
                char code = names.codeAt(seat, index);
                int signWidth = Sign.width(code);
                moment += Sign.ink(code) * (2 * before + signWidth);
                before += signWidth + spaceBehind(seat, index);
            }
            return moment;
        }

        /** Where a name begins that is centred by its width. */
        int middleBegin(int seat, int size) {
            int left = columnBegin(seat);
            int rest = columnWidth(width) - unitsOf(seat) * size;
            return Math.max(left, left + Math.floorDiv(rest, 2));
        }

        /** The index of the sign of this name that has the points at x, or -1. */
        int indexAt(int seat, int x, int size) {
            int begin = beginOf(seat, size);
            for (int index = 0; index < names.lengthOf(seat); index++) {
                int end = begin + Sign.width(names.codeAt(seat, index)) * size;
                if (x >= begin && x < end) {
                    return index;
                }
                begin = end + spaceBehind(seat, index) * size;
            }
            return -1;
        }

        private static int quotient(int number, int divisor) {
            return divisor > 0 ? Math.floorDiv(number, divisor) : 0;
        }
    }

    /** The latest states in a ring of rows that are made once and used again. */
    private static final class History {

        private final State[] states = new State[MOST_STATES];
        private int oldest = 0;
        private int number = 0;

        History() {
            for (int slot = 0; slot < MOST_STATES; slot++) {
                states[slot] = new State();
            }
        }

        void record(State state) {
            if (number >= MOST_STATES) {
                oldest = (oldest + 1) % MOST_STATES;
                number--;
            }
            State slot = slotAt(number);
            if (slot != null) {
                slot.copyFrom(state);
                number++;
            }
        }

        void takeLatest(State into) {
            State latest = slotAt(number - 1);
            if (number > 0 && latest != null) {
                into.copyFrom(latest);
                number--;
            }
        }

        private State slotAt(int place) {
            int slot = (oldest + place) % MOST_STATES;
            return slot >= 0 && slot < states.length ? states[slot] : null;
        }
    }
}
