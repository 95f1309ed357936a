/** Plates in the states from which the tests set out. */
final class Plates {

    static final int UNKNOWN = -1001;
    static final int BAD_VALUE = -1002;
    static final int FULL = -1003;
    static final int NOT_POSSIBLE = -1004;
    static final int NONE = -1005;

    static final String SIXTEEN = "ABCDEFGHIJKLMNOP";

    private Plates() {
    }

    static boolean isSign(int code) {
        return code >= 'A' && code <= 'Z' || code == '.' || code == '-';
    }

    /** Types a text in place of the one that was. */
    static void text(NamePlate plate, String text) {
        plate.clearText();
        for (int at = 0; at < text.length(); at++) {
            Check.due("type in " + text, plate.type(text.charAt(at)), at + 1);
        }
    }

    static int read(NamePlate plate, String text) {
        text(plate, text);
        return plate.readNames();
    }

    static NamePlate with(String text) {
        NamePlate plate = new NamePlate();
        Check.holds("names of " + text + " are read", read(plate, text) > 0);
        return plate;
    }

    /** The letters A, B, .. as names, a seat each. */
    static NamePlate withLetters(int names) {
        NamePlate plate = new NamePlate();
        StringBuilder text = new StringBuilder();
        for (int seat = 0; seat < names; seat++) {
            text.append(seat == 0 ? "" : ";").append((char) ('A' + seat));
        }
        Check.due("letters read", read(plate, text.toString()), names);
        return plate;
    }

    static String nameAt(NamePlate plate, int seat) {
        StringBuilder name = new StringBuilder();
        for (int index = 0; index < plate.name(seat, 0); index++) {
            name.append((char) plate.sign(seat, index, 0));
        }
        return name.toString();
    }

    static void dueNames(String when, NamePlate plate, String... names) {
        Check.due("number of names " + when, plate.count(4), names.length);
        for (int seat = 0; seat < names.length; seat++) {
            String is = nameAt(plate, seat);
            Check.holds("name " + seat + " " + when + " is " + is + ", due " + names[seat], is.equals(names[seat]));
        }
    }
}
