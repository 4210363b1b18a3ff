/** SIGHT: what Terms say of it, and promise 29. */
final class SightBoundaries extends Boundaries {
    SightBoundaries(Sentences document, Due due) {
        super(document, due);
    }

    @Override
    void all() {
        heights();
        howFarApart();
        placesThatTheLinePasses();
        rounded();
        theEye();
        theEnd();
        higherThanTheLine();
        seen();
        refused();
        place();
        items();
    }

    /** Flat ground of sheet 0, of a height. */
    private void ground(int height) {
        x.sheet(0, 0, 100);
        for (int k = 0; k < 100 && height != 0; k++) {
            x.set(0, k, height);
        }
    }

    private int seenOver(int atX, int atY, int height, int[] line) {
        x.set(0, atX + 10 * atY, height);
        int seen = x.sight(0, line[0], line[1], line[2], line[3]);
        x.set(0, atX + 10 * atY, 0);
        return seen;
    }

    /** All places that are a bar to a line when they are 100 high, but its ends: "xy xy", by rows. */
    private String bars(int... line) {
        StringBuilder all = new StringBuilder();
        anew();
        ground(0);
        for (int k = 0; k < 100; k++) {
            int atX = k % 10;
            int atY = k / 10;
            boolean end = atX == line[0] && atY == line[1] || atX == line[2] && atY == line[3];
            if (!end && seenOver(atX, atY, 100, line) == 0) {
                all.append(all.length() == 0 ? "" : " ").append(atX).append(atY);
            }
        }
        return all.toString();
    }

    private void heights() {
        terms("SIGHT: a grid of 10 by 10 heights (0 to 100; ITEMS, row by row: x + 10 y).");
        ground(0);
        is("100", seenOver(9, 9, 100, new int[] {0, 0, 1, 0}), 1);
        is("101", seenOver(9, 9, 101, new int[] {0, 0, 1, 0}), BAD);
        is("-1", seenOver(9, 9, -1, new int[] {0, 0, 1, 0}), BAD);
        x.set(0, 12, 50);
        is("12 is x 2, y 1", x.sight(0, 2, 0, 2, 2), 0);
        is("not x 1, y 2", x.sight(0, 1, 1, 1, 3), 1);
        is("9, 9 is there", x.sight(0, 8, 8, 9, 9), 1);
    }

    private void howFarApart() {
        terms("From x1, y1 to x2, y2: n is the greater one of how far they are apart in x and in y;");
        are("in x", bars(0, 0, 4, 1), "10 21 31");
        are("in y", bars(0, 0, 1, 4), "01 12 13");
        are("in x, down", bars(4, 1, 0, 0), "10 21 31");
        are("in y, down", bars(1, 4, 0, 0), "01 12 13");
        are("as far in both", bars(3, 0, 0, 3), "21 12");
        are("in y, away from the edge", bars(4, 5, 5, 9), "46 57 58");
        are("in x, away from the edge", bars(9, 5, 5, 4), "64 75 85");
    }

    private void placesThatTheLinePasses() {
        terms("for k 1 to n - 1 the line passes x1 and ROUNDED((x2 - x1) k), y1 and ROUNDED((y2 - y1) k),");
        are("neighbours: none", bars(4, 4, 5, 5), "");
        are("one between", bars(4, 4, 6, 4), "54");
        are("the whole row", bars(0, 9, 9, 9), "19 29 39 49 59 69 79 89");
        are("the whole column, down", bars(0, 9, 0, 0), "01 02 03 04 05 06 07 08");
        are("from corner to corner", bars(9, 9, 0, 0), "11 22 33 44 55 66 77 88");
        are("9 by 4", bars(0, 0, 9, 4), "10 21 31 42 52 63 73 84");
    }

    private void rounded() {
        terms("with ROUNDED(v) the whole number that (2 v + n) by 2 n is, or next below.");
        are("a half goes up", bars(0, 0, 2, 1), "11");
        are("a half below 0 goes up, too", bars(0, 1, 2, 0), "11");
        are("back", bars(2, 1, 0, 0), "11");
        are("back, down", bars(2, 0, 0, 1), "11");
        are("halves and others", bars(0, 0, 6, 3), "11 21 32 42 53");
        are("below 0", bars(0, 3, 6, 0), "41 51 22 32 13");
        are("below 0 in both", bars(6, 3, 0, 0), "11 21 32 42 53");
        are("a third", bars(0, 0, 3, 1), "10 21");
        are("a third below 0", bars(3, 1, 0, 0), "10 21");
    }

    private void theEye() {
        terms("The eye is 2 above the height at x1, y1,");
        ground(0);
        is("1 of 1", seenOver(1, 0, 1, new int[] {0, 0, 2, 0}), 1);
        is("2 of 1", seenOver(1, 0, 2, new int[] {0, 0, 2, 0}), 0);
        x.set(0, 0, 98);
        is("50 of 50", seenOver(1, 0, 50, new int[] {0, 0, 2, 0}), 1);
        is("51 of 50", seenOver(1, 0, 51, new int[] {0, 0, 2, 0}), 0);
        x.set(0, 0, 100);
        is("the highest eye: 51 of 51", seenOver(1, 0, 51, new int[] {0, 0, 2, 0}), 1);
        is("52 of 51", seenOver(1, 0, 52, new int[] {0, 0, 2, 0}), 0);
    }

    private void theEnd() {
        terms("the end the height at x2, y2:");
        ground(0);
        x.set(0, 2, 10);
        is("6 of 6", seenOver(1, 0, 6, new int[] {0, 0, 2, 0}), 1);
        is("7 of 6", seenOver(1, 0, 7, new int[] {0, 0, 2, 0}), 0);
        is("the other way, from 12 to 0: 6", seenOver(1, 0, 6, new int[] {2, 0, 0, 0}), 1);
        is("7", seenOver(1, 0, 7, new int[] {2, 0, 0, 0}), 0);
        x.set(0, 9, 100);
        is("an end of 100 is seen over flat ground", x.sight(0, 3, 0, 9, 0), 1);
    }

    private void higherThanTheLine() {
        terms("it is SEEN, if no place that the line passes is higher than (eye (n - k) + end k) by n.");
        ground(0);
        int[] line = {0, 0, 9, 0};
        is("k 1: 1 of 16/9", seenOver(1, 0, 1, line), 1);
        is("k 1: 2 of 16/9", seenOver(1, 0, 2, line), 0);
        is("k 4: 1 of 10/9", seenOver(4, 0, 1, line), 1);
        is("k 5: 1 of 8/9", seenOver(5, 0, 1, line), 0);
        is("k 8: 1 of 2/9", seenOver(8, 0, 1, line), 0);
        x.set(0, 9, 1);
        is("k 8: 1 of 10/9", seenOver(8, 0, 1, line), 1);
        is("k 8: 2 of 10/9", seenOver(8, 0, 2, line), 0);
        ground(100);
        is("flat and high", x.sight(0, 0, 0, 9, 9), 1);
        x.set(0, 99, 82);
        is("k 1: 100 of 100, the end is 82", x.sight(0, 0, 0, 9, 9), 0);
        ground(50);
        x.set(0, 0, 49);
        is("k 1 to 8: 50 of 51 to 50", x.sight(0, 0, 0, 9, 9), 1);
        x.set(0, 0, 48);
        is("k 1 to 8: 50 of 50", x.sight(0, 0, 0, 9, 9), 1);
        x.set(0, 0, 47);
        is("k 1 to 8: 50 of 49 and some ninths", x.sight(0, 0, 0, 9, 9), 0);
    }

    private void seen() {
        promise(29, "Whether x2, y2 is SEEN from x1, y1 (0 to 9 each): 1, 0; 100 ITEMS of a SHEET from its first one on.");
        for (int lane = 0; lane < 3; lane++) {
            x.sheet(lane, lane, 100);
            is("1", x.sight(lane, 0, 9, 9, 0), 1);
            x.set(lane, 18 + 9, 3);
            x.set(lane, 2 + 70, 3);
            is("0", x.sight(lane, 0, 9, 9, 0), 0);
        }
        promise(29, "BAD: places (alike, too), SHEET;");
        x.sheet(0, 0, 100);
        bad("x1", wrong -> x.sight(0, wrong, 0, 5, 5), -1, 10);
        bad("y1", wrong -> x.sight(0, 0, wrong, 5, 5), -1, 10);
        bad("x2", wrong -> x.sight(0, 0, 0, wrong, 5), -1, 10);
        bad("y2", wrong -> x.sight(0, 0, 0, 5, wrong), -1, 10);
        for (int k = 0; k < 10; k++) {
            is("alike " + k, x.sight(0, k, 9 - k, k, 9 - k), BAD);
        }
        is("alike in x alone", x.sight(0, 3, 0, 3, 9), 1);
        is("alike in y alone", x.sight(0, 0, 3, 9, 3), 1);
        bad("sheet", wrong -> x.sight(wrong, 0, 0, 5, 5), -1, 8);
    }

    private void refused() {
        promise(29, "NULL;");
        is("missing", x.sight(0, 0, 0, 1, 1), NULL);
        is("the last", x.sight(7, 0, 0, 1, 1), NULL);
    }

    private void place() {
        promise(29, "PLACE;");
        x.sheet(0, 0, 99);
        is("99", x.sight(0, 0, 0, 1, 1), PLACE);
        x.sheet(0, 0, 0);
        is("none", x.sight(0, 0, 0, 1, 1), PLACE);
        x.sheet(0, 0, 100);
        is("100", x.sight(0, 0, 0, 1, 1), 1);
    }

    private void items() {
        promise(29, "then BAD: an ITEM.");
        x.sheet(0, 2, 100);
        for (int k : new int[] {0, 1, 44, 98, 99}) {
            for (int wrong : new int[] {-1, 101, LEAST, MOST}) {
                x.set(0, k, wrong);
                is("item " + k + ", " + wrong, x.sight(0, 5, 5, 6, 6), BAD);
            }
            x.set(0, k, 100);
            is("item " + k + ", 100", x.sight(0, 5, 5, 6, 6), 1);
        }
        x.sheet(1, 2, 99);
        x.set(1, 0, 101);
        is("PLACE ahead of it", x.sight(1, 5, 5, 6, 6), PLACE);
    }
}
