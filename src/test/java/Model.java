import java.util.ArrayDeque;
import java.util.ArrayList;
import java.util.Deque;
import java.util.LinkedHashMap;
import java.util.List;
import java.util.Map;

/**
 * The document once more, by the slowest and plainest ways: names are strings, sizes are tried one by
 * one on every name, a fault is looked for prefix by prefix, and each state is a whole copy.
 */
final class Model {

    private static final int UNKNOWN = -1001;
    private static final int BAD_VALUE = -1002;
    private static final int FULL = -1003;
    private static final int NOT_POSSIBLE = -1004;
    private static final int NONE = -1005;
    private static final String SIGNS = "ABCDEFGHIJKLMNOPQRSTUVWXYZ.-";
    private static final String NAME = "[A-Z]([.-]?[A-Z])*";

    private static final class Seat {
        final String name;
        final boolean engraved;

        Seat(String name, boolean engraved) {
            this.name = name;
            this.engraved = engraved;
        }
    }

    private static final class State {
        int width = 2000;
        int height = 1000;
        int margin = 20;
        int columns = 1;
        int firstSize = 0;
        int cuts = 0;
        int lost = 0;
        List<Seat> seats = new ArrayList<>();
        Map<String, Integer> adjustments = new LinkedHashMap<>();

        State copy() {
            State copy = new State();
            copy.width = width;
            copy.height = height;
            copy.margin = margin;
            copy.columns = columns;
            copy.firstSize = firstSize;
            copy.cuts = cuts;
            copy.lost = lost;
            copy.seats = new ArrayList<>(seats);
            copy.adjustments = new LinkedHashMap<>(adjustments);
            return copy;
        }
    }

    private State state = new State();
    private State snapshot = null;
    private final Deque<State> history = new ArrayDeque<>();
    private String text = "";

    /** The call of this number in the order of the document's face. */
    int call(int method, int a, int b, int c) {
        switch (method) {
            case 0: return recut(a, b);
            case 1: return setMargin(a);
            case 2: return setColumns(a);
            case 3: return adjust((char) a, (char) b, c);
            case 4: return type((char) a);
            case 5: return clearText();
            case 6: return readNames();
            case 7: return remove(a);
            case 8: return swap(a, b);
            case 9: return engrave(a);
            case 10: return engraveAll();
            case 11: return undo();
            case 12: return keep();
            case 13: return restore();
            case 14: return name(a, b);
            case 15: return sign(a, b, c);
            case 16: return signAt(a, b);
            case 17: return size();
            case 18: return sizeBy(a, b);
            case 19: return sizeWithout(a);
            case 20: return leastWidth(a);
            case 21: return longest();
            case 22: return adjustment((char) a, (char) b);
            case 23: return pair(a, b);
            default: return count(a);
        }
    }

    // ---- helpers

    private void record() {
        history.addLast(state.copy());
        if (history.size() > 5) {
            history.removeFirst();
        }
    }

    private boolean taken(int seat) {
        return seat >= 0 && seat < state.seats.size();
    }

    private boolean anyEngraved() {
        return state.seats.stream().anyMatch(seat -> seat.engraved);
    }

    private static boolean in(int number, int least, int most) {
        return least <= number && number <= most;
    }

    private static boolean isSign(char code) {
        return SIGNS.indexOf(code) >= 0;
    }

    private static int width(char code) {
        int k = SIGNS.indexOf(code);
        return k < 26 ? 3 + k * 5 % 7 : k == 26 ? 2 : 4;
    }

    private static int openness(char code) {
        int k = SIGNS.indexOf(code);
        return k < 26 ? k % 3 : 2;
    }

    private static int ink(char code) {
        int k = SIGNS.indexOf(code);
        return k < 26 ? 1 + k * 3 % 5 : k == 26 ? 1 : 2;
    }

    private int space(String name, int index) {
        int adjustment = state.adjustments.getOrDefault(name.substring(index, index + 2), 0);
        int space = 6 - openness(name.charAt(index)) - openness(name.charAt(index + 1)) + adjustment;
        return space < 1 ? 1 : space;
    }

    private int before(String name, int index) {
        return index == 0 ? 0 : before(name, index - 1) + width(name.charAt(index - 1)) + space(name, index - 1);
    }

    private int units(String name) {
        int last = name.length() - 1;
        return before(name, last) + width(name.charAt(last));
    }

    private int column(int width) {
        return (width - 2 * state.margin) / state.columns;
    }

    private boolean fits(String name, int seat, int size, int width, int height) {
        int row = seat / state.columns;
        return units(name) * size <= column(width) && 12 * size + row * 12 * size <= height - 2 * state.margin;
    }

    private int freshSize(List<Seat> seats, int width, int height) {
        for (int size = 40; size >= 1; size--) {
            boolean all = true;
            for (int seat = 0; seat < seats.size(); seat++) {
                all &= fits(seats.get(seat).name, seat, size, width, height);
            }
            if (all) {
                return size;
            }
        }
        return 0;
    }

    private int begin(int seat, int size) {
        String name = state.seats.get(seat).name;
        long inks = 0;
        long sum = 0;
        for (int index = 0; index < name.length(); index++) {
            char code = name.charAt(index);
            inks += ink(code);
            sum += (long) ink(code) * (2 * before(name, index) + width(code));
        }
        int left = state.margin + seat % state.columns * column(state.width);
        long begin = (long) Math.floor((double) (inks * (2 * left + column(state.width)) - size * sum) / (2 * inks));
        int end = left + column(state.width);
        if (begin + units(name) * size > end) {
            begin = end - units(name) * size;
        }
        return begin < left ? left : (int) begin;
    }

    // ---- the plate

    int recut(int width, int height) {
        if (!in(width, 300, 6000) || !in(height, 100, 3000)) {
            return BAD_VALUE;
        }
        record();
        int lost = count(5);
        state.width = width;
        state.height = height;
        state.cuts++;
        state.lost += lost;
        state.seats.replaceAll(seat -> new Seat(seat.name, false));
        return lost;
    }

    int setMargin(int margin) {
        if (!in(margin, 0, 100)) {
            return BAD_VALUE;
        }
        if (anyEngraved()) {
            return NOT_POSSIBLE;
        }
        int previous = state.margin;
        if (margin == previous) {
            return NONE;
        }
        record();
        state.margin = margin;
        return previous;
    }

    int setColumns(int columns) {
        if (!in(columns, 1, 3)) {
            return BAD_VALUE;
        }
        if (anyEngraved()) {
            return NOT_POSSIBLE;
        }
        int previous = state.columns;
        if (columns == previous) {
            return NONE;
        }
        record();
        state.columns = columns;
        return previous;
    }

    int adjust(char left, char right, int by) {
        if (!isSign(left) || !isSign(right)) {
            return UNKNOWN;
        }
        if (!in(by, -3, 3)) {
            return BAD_VALUE;
        }
        String pair = "" + left + right;
        if (state.seats.stream().anyMatch(seat -> seat.engraved && seat.name.contains(pair))) {
            return NOT_POSSIBLE;
        }
        int previous = state.adjustments.getOrDefault(pair, 0);
        if (previous == by) {
            return NONE;
        }
        if (previous == 0 && state.adjustments.size() == 16) {
            return FULL;
        }
        record();
        if (by == 0) {
            state.adjustments.remove(pair);
        } else {
            state.adjustments.put(pair, by);
        }
        return previous;
    }

    // ---- texts and names

    int type(char character) {
        if (text.length() == 60) {
            return FULL;
        }
        text += character;
        return text.length();
    }

    int clearText() {
        int length = text.length();
        text = "";
        return length;
    }

    private static boolean couldBecomeNames(String beginning) {
        String[] names = beginning.split(";", -1);
        for (int at = 0; at < names.length - 1; at++) {
            if (!names[at].matches(NAME) || names[at].length() > 16) {
                return false;
            }
        }
        String last = names[names.length - 1];
        return last.length() <= 16 && (last.isEmpty() || last.matches(NAME + "[.-]?"));
    }

    int readNames() {
        for (int length = 1; length <= text.length(); length++) {
            if (!couldBecomeNames(text.substring(0, length))) {
                return -100 - (length - 1);
            }
        }
        String[] names = text.split(";", -1);
        if (!names[names.length - 1].matches(NAME)) {
            return -100 - text.length();
        }
        if (state.seats.size() + names.length > 20) {
            return FULL;
        }
        record();
        for (String name : names) {
            state.seats.add(new Seat(name, false));
        }
        return names.length;
    }

    int remove(int seat) {
        if (!taken(seat)) {
            return UNKNOWN;
        }
        for (int behind = seat; behind < state.seats.size(); behind++) {
            if (state.seats.get(behind).engraved) {
                return NOT_POSSIBLE;
            }
        }
        record();
        state.seats.remove(seat);
        return state.seats.size();
    }

    int swap(int seat, int other) {
        if (!taken(seat) || !taken(other)) {
            return UNKNOWN;
        }
        if (state.seats.get(seat).engraved || state.seats.get(other).engraved) {
            return NOT_POSSIBLE;
        }
        if (seat == other) {
            return NONE;
        }
        record();
        state.seats.set(seat, state.seats.set(other, state.seats.get(seat)));
        return size();
    }

    // ---- engraving

    private boolean fitsNow(int seat) {
        int size = size();
        return size != 0 && fits(state.seats.get(seat).name, seat, size, state.width, state.height);
    }

    private void mark(int seat) {
        int size = size();
        if (!anyEngraved()) {
            state.firstSize = size;
        }
        state.seats.set(seat, new Seat(state.seats.get(seat).name, true));
    }

    int engrave(int seat) {
        if (!taken(seat)) {
            return UNKNOWN;
        }
        if (!fitsNow(seat)) {
            return NOT_POSSIBLE;
        }
        if (state.seats.get(seat).engraved) {
            return NONE;
        }
        record();
        mark(seat);
        return begin(seat, size());
    }

    int engraveAll() {
        List<Integer> which = new ArrayList<>();
        for (int seat = 0; seat < state.seats.size(); seat++) {
            if (!state.seats.get(seat).engraved && fitsNow(seat)) {
                which.add(seat);
            }
        }
        if (which.isEmpty()) {
            return NONE;
        }
        record();
        which.forEach(this::mark);
        return which.size();
    }

    // ---- history

    int undo() {
        if (history.isEmpty()) {
            return NONE;
        }
        state = history.removeLast();
        return history.size();
    }

    int keep() {
        snapshot = state.copy();
        return state.seats.size();
    }

    int restore() {
        if (snapshot == null) {
            return NONE;
        }
        record();
        state = snapshot.copy();
        return state.seats.size();
    }

    // ---- what is told

    int name(int seat, int what) {
        if (!taken(seat)) {
            return UNKNOWN;
        }
        if (!in(what, 0, 10)) {
            return BAD_VALUE;
        }
        String name = state.seats.get(seat).name;
        int size = size();
        if (size == 0 && (what == 5 || what == 6 || what == 8 || what == 9)) {
            return NONE;
        }
        int left = state.margin + seat % state.columns * column(state.width);
        int middle = Math.floorDiv(2 * left + column(state.width) - units(name) * size, 2);
        switch (what) {
            case 0: return name.length();
            case 1: return units(name);
            case 2: return state.seats.get(seat).engraved ? 1 : 0;
            case 3: return seat / state.columns;
            case 4: return seat % state.columns;
            case 5: return begin(seat, size);
            case 6: return state.margin + 12 * size * (seat / state.columns);
            case 7: return fitsNow(seat) ? 1 : 0;
            case 8: return units(name) * size;
            case 9: return middle < left ? left : middle;
            default: return name.chars().map(code -> ink((char) code)).sum();
        }
    }

    int sign(int seat, int index, int what) {
        if (!taken(seat) || !in(index, 0, state.seats.get(seat).name.length() - 1)) {
            return UNKNOWN;
        }
        if (!in(what, 0, 5)) {
            return BAD_VALUE;
        }
        String name = state.seats.get(seat).name;
        boolean last = index == name.length() - 1;
        if (last && (what == 3 || what == 4) || what == 5 && size() == 0) {
            return NONE;
        }
        char code = name.charAt(index);
        switch (what) {
            case 0: return code;
            case 1: return before(name, index);
            case 2: return width(code);
            case 3: return space(name, index);
            case 4: return openness(code) + space(name, index) + openness(name.charAt(index + 1));
            default: return begin(seat, size()) + before(name, index) * size();
        }
    }

    int signAt(int x, int y) {
        if (x < 0 || y < 0) {
            return BAD_VALUE;
        }
        int size = size();
        for (int seat = 0; size > 0 && seat < state.seats.size(); seat++) {
            String name = state.seats.get(seat).name;
            int top = name(seat, 6);
            for (int index = 0; index < name.length(); index++) {
                int from = sign(seat, index, 5);
                if (in(x, from, from + width(name.charAt(index)) * size - 1) && in(y, top, top + 12 * size - 1)) {
                    return 100 * seat + index;
                }
            }
        }
        return NONE;
    }

    int size() {
        return anyEngraved() ? state.firstSize : freshSize(state.seats, state.width, state.height);
    }

    int sizeBy(int width, int height) {
        return in(width, 300, 6000) && in(height, 100, 3000) ? freshSize(state.seats, width, height) : BAD_VALUE;
    }

    int sizeWithout(int seat) {
        if (!taken(seat)) {
            return UNKNOWN;
        }
        List<Seat> others = new ArrayList<>(state.seats);
        others.remove(seat);
        return freshSize(others, state.width, state.height);
    }

    int leastWidth(int size) {
        if (!in(size, 1, 40)) {
            return BAD_VALUE;
        }
        if (state.seats.isEmpty()) {
            return NONE;
        }
        int width = 300;
        for (Seat seat : state.seats) {
            while (units(seat.name) * size > column(width)) {
                width++;
            }
        }
        return width;
    }

    int longest() {
        int longest = NONE;
        for (int seat = state.seats.size() - 1; seat >= 0; seat--) {
            if (longest == NONE || units(state.seats.get(seat).name) >= units(state.seats.get(longest).name)) {
                longest = seat;
            }
        }
        return longest;
    }

    int adjustment(char left, char right) {
        return isSign(left) && isSign(right) ? state.adjustments.getOrDefault("" + left + right, 0) : UNKNOWN;
    }

    int pair(int place, int what) {
        if (place < 0 || !in(what, 0, 2)) {
            return BAD_VALUE;
        }
        List<String> pairs = new ArrayList<>(state.adjustments.keySet());
        if (place >= pairs.size()) {
            return NONE;
        }
        String pair = pairs.get(place);
        return what == 2 ? state.adjustments.get(pair) : pair.charAt(what);
    }

    int count(int what) {
        switch (what) {
            case 0: return state.width;
            case 1: return state.height;
            case 2: return state.margin;
            case 3: return state.columns;
            case 4: return state.seats.size();
            case 5: return (int) state.seats.stream().filter(seat -> seat.engraved).count();
            case 6: return state.seats.isEmpty() ? 0 : (state.seats.size() - 1) / state.columns + 1;
            case 7: return state.cuts;
            case 8: return state.lost;
            case 9: return state.adjustments.size();
            case 10: return history.size();
            case 11: return text.length();
            default: return BAD_VALUE;
        }
    }
}
