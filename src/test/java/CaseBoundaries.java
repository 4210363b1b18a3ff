/** CASES, WEIGHTS, LIKE CASES and what BINDS: what Terms say of them, and promises 25 to 28. */
final class CaseBoundaries extends Boundaries {
    CaseBoundaries(Sentences document, Due due) {
        super(document, due);
    }

    @Override
    void all() {
        sixteenCases();
        marksAndHow();
        far();
        weights();
        thatDayOrAhead();
        byFarThenLatestThenLastTold();
        asFarAsTheFirst();
        howTheMostEnded();
        ofAsMany();
        noneWithoutCases();
        enter();
        weight();
        like();
        likeNone();
        likeRefused();
        binds();
    }

    private void sixteenCases() {
        terms("CASES 0 .. 15 (16 at most):");
        are("cases", row(16, k -> x.enter(0, 0, 0)), "0 1 2 3 4 5 6 7 8 9 10 11 12 13 14 15");
        is("a 17th", x.enter(0, 0, 0), FULL);
        is("count(8)", x.count(8), 16);
        is("the last told", x.like(0, 0, 0, 0), 15);
        is("the first told", x.like(0, 0, 15, 0), 0);
    }

    private void marksAndHow() {
        terms("marks (bits 0 to 11), how it ended (1 leave, 0 not), a day.");
        is("-1", x.enter(-1, 0, 0), BAD);
        is("4096", x.enter(4096, 0, 0), BAD);
        is("how -1", x.enter(0, -1, 0), BAD);
        is("how 2", x.enter(0, 2, 0), BAD);
        is("day -1", x.enter(0, 0, -1), BAD);
        is("day 100000", x.enter(0, 0, 100000), BAD);
        is("none, not, the first day", x.enter(0, 0, 0), 0);
        is("all, leave, the last day", x.enter(4095, 1, LAST_DAY), 1);
        is("not", x.binds(0, LAST_DAY), 0);
        is("leave", x.binds(4095, LAST_DAY), 1);
    }

    private void far() {
        terms("FAR of marks from others: WEIGHTS");
        x.enter(0b101010101010, 0, 0);
        is("alike", x.like(0b101010101010, 0, 0, 1), 0);
        is("in none of both but all", x.like(0b010101010101, 0, 0, 1), 12);
        is("in one", x.like(0, 0, 0, 1), 6);
        is("in the other", x.like(4095, 0, 0, 1), 6);
        for (int mark = 0; mark < 12; mark++) {
            is("mark " + mark, x.like(0b101010101010 ^ 1 << mark, 0, 0, 1), 1);
            x.weight(mark, 9);
            is("mark " + mark + ", weighed", x.like(0b101010101010 ^ 1 << mark, 0, 0, 1), 9);
        }
        is("all", x.like(0b010101010101, 0, 0, 1), 108);
    }

    private void weights() {
        terms("(1 to 9 each; 1 at first) of marks in one of both, added.");
        for (int mark = 0; mark < 12; mark++) {
            is("0", x.weight(mark, 0), BAD);
            is("10", x.weight(mark, 10), BAD);
            is("1 at first", x.weight(mark, 9), 1);
            is("9 then", x.weight(mark, 1), 9);
        }
        x.enter(0b111, 0, 0);
        x.weight(0, 2);
        x.weight(1, 3);
        x.weight(2, 4);
        x.weight(3, 5);
        is("added", x.like(0b1001, 0, 0, 1), 3 + 4 + 5);
        is("in one of both", x.like(0b111, 0, 0, 1), 0);
    }

    private void thatDayOrAhead() {
        terms("LIKE CASES to marks on a day: those of that day or ahead,");
        x.enter(0, 0, 100);
        x.enter(0, 1, LAST_DAY);
        is("a day ahead", x.like(0, 99, 0, 0), NONE);
        is("that day", x.like(0, 100, 0, 0), 0);
        is("later", x.like(0, 99998, 0, 0), 0);
        is("not the other one yet", x.like(0, 99998, 1, 0), NONE);
        is("the last day", x.like(0, LAST_DAY, 0, 0), 1);
        is("and the first one", x.like(0, LAST_DAY, 1, 0), 0);
    }

    private void byFarThenLatestThenLastTold() {
        terms("by FAR, then the latest, then the last told.");
        x.enter(0b11, 0, 50);
        x.enter(0b01, 0, 10);
        x.enter(0b01, 0, 20);
        x.enter(0b10, 0, 20);
        x.enter(0b01, 0, 15);
        x.enter(0b00, 0, 1);
        are("all", row(6, i -> x.like(0, 99, i, 0)), "5 3 2 4 1 0");
        are("how far", row(6, i -> x.like(0, 99, i, 1)), "0 1 1 1 1 2");
        x.weight(0, 3);
        are("weighed", row(6, i -> x.like(0, 99, i, 0)), "5 3 2 4 1 0");
        x.weight(1, 5);
        are("weighed again", row(6, i -> x.like(0, 99, i, 0)), "5 2 4 1 3 0");
    }

    private void asFarAsTheFirst() {
        terms("BINDS: of the LIKE CASES that are as FAR as the first one:");
        x.enter(0b1, 1, 10);
        x.enter(0b11, 0, 20);
        x.enter(0b11, 0, 30);
        is("farther ones are nothing to it", x.binds(0b1, 99), 1);
        is("nor nearer ones that are not there yet", x.binds(0b11, 10), 1);
        is("here they are", x.binds(0b11, 20), 0);
        x.weight(0, 2);
        is("as far, by weight", x.binds(0b10, 99), 0);
        x.weight(1, 2);
        x.enter(0b0, 1, 5);
        x.enter(0b0, 1, 5);
        x.enter(0b0, 1, 5);
        is("three of five as far", x.binds(0b10, 99), 1);
    }

    private void howTheMostEnded() {
        terms("how the most ended, 1 or 0;");
        x.enter(0, 1, 1);
        x.enter(0, 1, 2);
        x.enter(0, 0, 3);
        is("two of three, though the first is 0", x.binds(0, 3), 1);
        x.enter(0, 0, 0);
        x.enter(0, 0, 0);
        is("three of five", x.binds(0, 3), 0);
        anew();
        for (int k = 0; k < 16; k++) {
            x.enter(5, k < 9 ? 0 : 1, k);
        }
        is("nine of sixteen", x.binds(5, 99), 0);
    }

    private void ofAsMany() {
        terms("of as many the way of the first;");
        x.enter(0, 1, 10);
        x.enter(0, 0, 10);
        is("the last told", x.binds(0, 10), 0);
        x.enter(0, 0, 5);
        x.enter(0, 1, 11);
        is("the latest", x.binds(0, 11), 1);
        is("one of three is not there yet", x.binds(0, 10), 0);
    }

    private void noneWithoutCases() {
        terms("NONE without CASES.");
        is("none", x.binds(0, LAST_DAY), NONE);
        x.enter(0, 1, 100);
        is("none yet", x.binds(0, 99), NONE);
        is("one", x.binds(4095, 100), 1);
    }

    private void enter() {
        promise(25, "A CASE: its number.");
        is("first", x.enter(4095, 1, LAST_DAY), 0);
        is("second", x.enter(4095, 1, LAST_DAY), 1);
        promise(25, "BAD: marks (0 to 4095), how (0, 1), day;");
        bad("marks", wrong -> x.enter(wrong, 0, 0), -1, 4096);
        bad("how", wrong -> x.enter(0, wrong, 0), -1, 2);
        bad("day", wrong -> x.enter(0, 0, wrong), -1, 100000);
        is("count(8)", x.count(8), 0);
        promise(25, "FULL: 16.");
        for (int k = 0; k < 16; k++) {
            is("case", x.enter(k, 0, k), k);
        }
        is("a 17th", x.enter(0, 0, LAST_DAY), FULL);
        is("count(8), full", x.count(8), 16);
        is("none came", x.like(0, LAST_DAY, 0, 0), 0);
    }

    private void weight() {
        promise(26, "The WEIGHT of a mark (0 to 11): what it was.");
        is("mark 0", x.weight(0, 9), 1);
        is("then", x.weight(0, 2), 9);
        is("mark 11", x.weight(11, 9), 1);
        is("then, too", x.weight(11, 1), 9);
        is("mark 0 still", x.weight(0, 1), 2);
        promise(26, "BAD.");
        bad("mark", wrong -> x.weight(wrong, 1), -1, 12);
        bad("v", wrong -> x.weight(0, wrong), -1, 0, 10);
        is("still 1", x.weight(0, 1), 1);
    }

    private void like() {
        promise(27, "The i-th LIKE CASE to marks on a day: its number (what = 0), how FAR (1), the marks that differ (2);");
        x.enter(4095, 0, 0);
        x.enter(0b1000_0000_0001, 0, 0);
        x.weight(11, 9);
        are("first", row(3, what -> x.like(1, 0, 0, what)), "1 9 2048");
        are("second", row(3, what -> x.like(1, 0, 1, what)), "0 19 4094");
        are("alike", row(3, what -> x.like(4095, 0, 0, what)), "0 0 0");
    }

    private void likeNone() {
        promise(27, "NONE: there are not so many.");
        is("none", x.like(0, LAST_DAY, 0, 0), NONE);
        for (int k = 0; k < 16; k++) {
            x.enter(k, 0, k);
        }
        is("the 16th", x.like(0, LAST_DAY, 15, 0), 15);
        for (int i : new int[] {16, 17, -1, LEAST, MOST}) {
            are("i " + i, row(3, what -> x.like(0, LAST_DAY, i, what)), NONE + " " + NONE + " " + NONE);
        }
        is("fewer on an earlier day", x.like(0, 7, 7, 1), 3);
        is("not so many then", x.like(0, 7, 8, 1), NONE);
    }

    private void likeRefused() {
        promise(27, "BAD: marks, day, what.");
        x.enter(0, 0, 0);
        bad("marks", wrong -> x.like(wrong, 0, 0, 0), -1, 4096);
        bad("day", wrong -> x.like(0, wrong, 0, 0), -1, 100000);
        for (int wrong : new int[] {-1, 3, LEAST, MOST}) {
            is("what " + wrong, x.like(0, 0, 0, wrong), BAD);
            is("what " + wrong + " of one that is not there", x.like(0, 0, 1, wrong), BAD);
        }
        is("the edges", x.like(4095, LAST_DAY, 0, 2), 4095);
    }

    private void binds() {
        promise(28, "BINDS: 1, 0; NONE.");
        is("NONE", x.binds(0, 0), NONE);
        x.enter(0, 1, 0);
        x.enter(4095, 0, 0);
        is("1", x.binds(0, 0), 1);
        is("0", x.binds(4095, LAST_DAY), 0);
        promise(28, "BAD: marks, day.");
        x.enter(0, 1, 0);
        bad("marks", wrong -> x.binds(wrong, 0), -1, 4096);
        bad("day", wrong -> x.binds(0, wrong), -1, 100000);
    }
}
