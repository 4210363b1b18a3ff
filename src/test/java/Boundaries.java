import java.util.function.IntUnaryOperator;

/** Tests of single sentences of the document, each on a new object. */
abstract class Boundaries {
    static final int NONE = -1000000, BAD = -1000001, STATE = -1000002, FULL = -1000003;
    static final int NULL = -1000011, PLACE = -1000012, KIND = -1000013, SIZE = -1000014, STORE = -1000015;
    static final int LEAST = Integer.MIN_VALUE, MOST = Integer.MAX_VALUE;
    static final int LAST_DAY = 99999;

    GradedHouses x;

    private final Sentences document;
    private final Due due;
    private String sentence = "";

    Boundaries(Sentences document, Due due) {
        this.document = document;
        this.due = due;
    }

    abstract void all();

    void terms(String words) {
        begin(Sentences.TERMS, words);
    }

    void promise(int number, String words) {
        begin("Promise " + number, words);
    }

    private void begin(String section, String words) {
        document.quote(section, words);
        sentence = section + " '" + words + "': ";
        anew();
    }

    void anew() {
        x = new GradedHouses();
    }

    void is(String call, long got, long want) {
        due.is(sentence + call, got, want);
    }

    void are(String calls, String got, String want) {
        due.are(sentence + calls, got, want);
    }

    /** A house in a grade from day 0 on, with a window of a year and a worth of 100. */
    void housed(int grade, int year) {
        x.house();
        x.list(0, grade, 0, 0);
        x.part(0, 0, year, 100);
    }

    /** That a number of a call is BAD: those just outside, and the least and the most of all. */
    void bad(String number, IntUnaryOperator call, int... outside) {
        for (int wrong : outside) {
            is(number + " " + wrong, call.applyAsInt(wrong), BAD);
        }
        is(number + ", least", call.applyAsInt(LEAST), BAD);
        is(number + ", most", call.applyAsInt(MOST), BAD);
    }

    /** Answers with blanks between, by a call that takes 0, 1, 2 .. */
    String row(int n, IntUnaryOperator call) {
        StringBuilder row = new StringBuilder();
        for (int k = 0; k < n; k++) {
            row.append(k == 0 ? "" : " ").append(call.applyAsInt(k));
        }
        return row.toString();
    }
}
