/** Promises 25 to 28: enter, weight, like, binds. */
public final class CasesTest {
    private static final Due due = new Due();
    private static final int BAD = GradedHouses.BAD, FULL = GradedHouses.FULL, NONE = GradedHouses.NONE;

    public static void main(String[] args) {
        enter();
        weight();
        like();
        likeRefused();
        binds();
        due.end();
    }

    private static void enter() {
        GradedHouses x = new GradedHouses();
        due.is("marks -1", x.enter(-1, 0, 0), BAD);
        due.is("marks 4096", x.enter(4096, 0, 0), BAD);
        due.is("how -1", x.enter(0, -1, 0), BAD);
        due.is("how 2", x.enter(0, 2, 0), BAD);
        due.is("day -1", x.enter(0, 0, -1), BAD);
        due.is("day", x.enter(0, 0, 100000), BAD);
        for (int k = 0; k < 16; k++) {
            due.is("case", x.enter(4095, k % 2, 99999), k);
        }
        due.is("a 17th", x.enter(0, 0, 0), FULL);
        due.is("BAD ahead of FULL", x.enter(4096, 0, 0), BAD);
        due.is("count", x.count(8), 16);
    }

    private static void weight() {
        GradedHouses x = new GradedHouses();
        due.is("mark -1", x.weight(-1, 1), BAD);
        due.is("mark 12", x.weight(12, 1), BAD);
        due.is("v 0", x.weight(0, 0), BAD);
        due.is("v 10", x.weight(0, 10), BAD);
        due.is("1 at first", x.weight(11, 9), 1);
        due.is("what it was", x.weight(11, 3), 9);
        due.is("another one", x.weight(10, 2), 1);
        x.enter(4095, 0, 0);
        due.is("all", x.like(0, 0, 0, 1), 15);
    }

    private static String ranks(GradedHouses x, int marks, int day, int what) {
        StringBuilder row = new StringBuilder();
        for (int i = 0; i < 17 && x.like(marks, day, i, what) != NONE; i++) {
            row.append(i == 0 ? "" : " ").append(x.like(marks, day, i, what));
        }
        return row.toString();
    }

    private static void like() {
        GradedHouses x = new GradedHouses();
        due.is("no case", x.like(0, 0, 0, 0), NONE);
        x.enter(0b0011, 1, 30);
        x.enter(0b0111, 0, 10);
        x.enter(0b0010, 0, 20);
        x.enter(0b1011, 1, 20);
        x.enter(0b0011, 0, 5);
        due.are("numbers", ranks(x, 0b0011, 99, 0), "0 4 3 2 1");
        due.are("how far", ranks(x, 0b0011, 99, 1), "0 0 1 1 1");
        due.are("what differs", ranks(x, 0b0011, 99, 2), "0 0 8 1 4");
        due.are("that day or ahead", ranks(x, 0b0011, 20, 0), "4 3 2 1");
        due.are("a day ahead of it", ranks(x, 0b0011, 19, 0), "4 1");
        due.are("none", ranks(x, 0b0011, 4, 0), "");
        x.weight(0, 9);
        x.weight(3, 5);
        x.weight(2, 6);
        due.are("weighed", ranks(x, 0b0011, 99, 0), "0 4 3 1 2");
        due.are("how far then", ranks(x, 0b0011, 99, 1), "0 0 5 6 9");
        due.are("in one of both", ranks(x, 0b1100, 99, 1), "12 15 16 21 21");
    }

    private static void likeRefused() {
        GradedHouses x = new GradedHouses();
        x.enter(0, 0, 0);
        due.is("marks -1", x.like(-1, 0, 0, 0), BAD);
        due.is("marks 4096", x.like(4096, 0, 0, 0), BAD);
        due.is("day -1", x.like(0, -1, 0, 0), BAD);
        due.is("day", x.like(0, 100000, 0, 0), BAD);
        due.is("what -1", x.like(0, 0, 0, -1), BAD);
        due.is("what 3", x.like(0, 0, 0, 3), BAD);
        due.is("i -1", x.like(0, 0, -1, 0), NONE);
        due.is("i 1", x.like(0, 0, 1, 0), NONE);
        due.is("i, greatest", x.like(0, 0, Integer.MAX_VALUE, 0), NONE);
        due.is("BAD ahead of NONE", x.like(0, 0, 1, 3), BAD);
        due.is("it is there", x.like(0, 0, 0, 0), 0);
        due.is("binds marks", x.binds(4096, 0), BAD);
        due.is("binds marks -1", x.binds(-1, 0), BAD);
        due.is("binds day", x.binds(0, 100000), BAD);
        due.is("binds day -1", x.binds(0, -1), BAD);
    }

    private static void binds() {
        GradedHouses x = new GradedHouses();
        due.is("no case", x.binds(0, 99999), NONE);
        x.enter(1, 1, 10);
        due.is("none yet", x.binds(1, 9), NONE);
        due.is("one", x.binds(1, 10), 1);
        x.enter(1, 0, 20);
        due.is("as many: the way of the first, the latest", x.binds(1, 20), 0);
        due.is("the later one is not there yet", x.binds(1, 19), 1);
        x.enter(1, 1, 15);
        due.is("the most", x.binds(1, 20), 1);
        x.enter(2048, 0, 1);
        x.enter(2048, 0, 2);
        x.enter(2048, 1, 3);
        due.is("the most, against the first", x.binds(2048, 3), 0);
        x.enter(3, 0, 15);
        x.enter(3, 0, 15);
        due.is("those farther off do not count", x.binds(1, 20), 1);
        due.is("but here", x.binds(3, 20), 0);
        due.is("all as far", x.binds(2, 20), 0);
        x.weight(1, 2);
        x.enter(1, 0, 20);
        x.enter(1, 1, 20);
        due.is("three of five", x.binds(1, 20), 1);
        x.enter(1, 0, 20);
        due.is("three of six, the last told of a day is the first", x.binds(1, 20), 0);
    }
}
