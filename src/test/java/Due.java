/** Counts and prints the answers that are not the ones that are due. */
final class Due {
    static final int NULL = -1000011, PLACE = -1000012, KIND = -1000013, SIZE = -1000014, STORE = -1000015;

    private int wrong;
    private int looked;

    void is(String what, long got, long want) {
        looked++;
        if (got != want) {
            wrong++;
            System.out.println(what + " answered " + got + ", due is " + want);
        }
    }

    /** The answers of a row of calls, written as numbers with blanks between. */
    void are(String what, String got, String want) {
        looked++;
        if (!got.equals(want)) {
            wrong++;
            System.out.println(what + " answered " + got + ", due is " + want);
        }
    }

    void end() {
        if (looked == 0 || wrong > 0) {
            System.out.println(wrong + " of " + looked + " answers are not as due");
            System.exit(1);
        }
    }

    /** Feeds a text to the tape, eight bytes a call: the last answer. */
    static int feed(GradedHouses x, String text) {
        int last = 0;
        for (int i = 0; i < text.length(); i += 8) {
            String piece = text.substring(i, Math.min(i + 8, text.length()));
            long w = 0;
            for (char c : piece.toCharArray()) {
                w = w << 8 | c & 255;
            }
            last = x.feed(w, piece.length());
        }
        return last;
    }

    static int read(GradedHouses x, String text) {
        feed(x, text);
        return x.acts();
    }

    /** Lays a sheet of ints with these items. */
    static void lay(GradedHouses x, int sheet, int... items) {
        x.sheet(sheet, 2, items.length);
        for (int i = 0; i < items.length; i++) {
            x.set(sheet, i, items[i]);
        }
    }
}
