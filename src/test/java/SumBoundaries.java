/** GRANTS, FUNDS and USES: what Terms say of them, and promises 22 to 24. */
final class SumBoundaries extends Boundaries {
    SumBoundaries(Sentences document, Due due) {
        super(document, due);
    }

    @Override
    void all() {
        costsOfGrants();
        grantsByGrade();
        roofItems();
        noMoreThanTheFund();
        theGreatestWorth();
        theLeastNumberOfRoofs();
        workItems();
        aNeedOrMore();
        theLeastCost();
        theLeastNumberOfWorks();
        hardship();
        grant();
        fund();
        fundRefused();
        use();
        useNone();
        useRefused();
    }

    private void costsOfGrants() {
        terms("A GRANT: of a cost (0 to 100000) by GRADE:");
        is("-1", x.grant(-1, 1), BAD);
        is("0", x.grant(0, 1), 0);
        is("100000", x.grant(100000, 1), 30000);
        is("100001", x.grant(100001, 1), BAD);
    }

    private void grantsByGrade() {
        terms("1: half, 30000 at most;");
        are("around the most", row(5, k -> x.grant(59998 + k, 1)), "29999 29999 30000 30000 30000");
        are("the least", row(4, k -> x.grant(k, 1)), "0 0 1 1");
        terms("2: a third, 15000 at most;");
        are("around the most", row(7, k -> x.grant(44997 + k, 2)), "14999 14999 14999 15000 15000 15000 15000");
        are("the least", row(4, k -> x.grant(k, 2)), "0 0 0 1");
        terms("3: a tenth, 5000 at most;");
        are("around the most", row(4, k -> x.grant(49998 + 4 * k, 3)), "4999 5000 5000 5000");
        is("just ahead", x.grant(49999, 3), 4999);
        is("just there", x.grant(50000, 3), 5000);
        is("9", x.grant(9, 3), 0);
        is("10", x.grant(10, 3), 1);
        terms("0: nothing.");
        is("0", x.grant(0, 0), 0);
        is("100000", x.grant(100000, 0), 0);
    }

    private void roofItems() {
        terms("A FUND over n roofs (ITEMS: cost 1 to 100, worth of a delay 0 to 1000, each):");
        int[][] pairs = {{0, 5}, {1, 5}, {100, 5}, {101, 5}, {5, -1}, {5, 0}, {5, 1000}, {5, 1001}, {LEAST, 5}, {5, MOST}};
        int[] due = {BAD, 5, 5, BAD, BAD, 0, 1000, BAD, BAD, BAD};
        for (int k = 0; k < pairs.length; k++) {
            Due.lay(x, 0, pairs[k]);
            is(pairs[k][0] + ", " + pairs[k][1], x.fund(0, 0, 1, 500, 1), due[k]);
        }
        Due.lay(x, 0, 1, 1, 1, 1, 101, 1, 1, 1);
        is("each of them", x.fund(0, 0, 4, 500, 1), BAD);
        is("but no others", x.fund(0, 0, 2, 500, 1), 2);
        is("nor those ahead", x.fund(0, 6, 1, 500, 1), 1);
    }

    private void noMoreThanTheFund() {
        terms("of all sets of which the costs are no more than the FUND (0 to 500)");
        Due.lay(x, 0, 100, 1, 100, 2, 100, 4, 100, 8, 100, 16, 100, 32);
        is("-1", x.fund(0, 0, 6, -1, 0), BAD);
        is("501", x.fund(0, 0, 6, 501, 0), BAD);
        is("0", x.fund(0, 0, 6, 0, 0), 0);
        is("99", x.fund(0, 0, 6, 99, 0), 0);
        is("100", x.fund(0, 0, 6, 100, 0), 32);
        is("199", x.fund(0, 0, 6, 199, 0), 32);
        is("200", x.fund(0, 0, 6, 200, 0), 48);
        is("499", x.fund(0, 0, 6, 499, 0), 60);
        is("500", x.fund(0, 0, 6, 500, 0), 62);
    }

    private void theGreatestWorth() {
        terms("that with the greatest worth,");
        Due.lay(x, 0, 50, 60, 30, 35, 30, 35, 60, 69);
        is("two by 60", x.fund(0, 0, 4, 60, 0), 6);
        is("their worth", x.fund(0, 0, 4, 60, 1), 70);
        is("one by 59", x.fund(0, 0, 4, 59, 0), 1);
        is("all", x.fund(0, 0, 4, 170, 1), 199);
        Due.lay(x, 1, 1, 1000, 1, 1000, 1, 1000, 1, 1000, 1, 1000, 1, 1000, 1, 1000, 1, 1000, 1, 1000, 1, 1000, 1, 1000, 1, 1000);
        is("the most there can be", x.fund(1, 0, 12, 12, 1), 12000);
        is("one fewer", x.fund(1, 0, 12, 11, 1), 11000);
    }

    private void theLeastNumberOfRoofs() {
        terms("of several the least number (roof k: 2 to the power k).");
        Due.lay(x, 0, 10, 5, 5, 5, 10, 10, 5, 0);
        is("0 ahead of 1, though dearer", x.fund(0, 0, 4, 10, 0), 4);
        is("0 or 1", x.fund(0, 0, 2, 10, 0), 1);
        is("0 and 1 (3) ahead of 2 (4)", x.fund(0, 0, 3, 15, 0), 6);
        Due.lay(x, 1, 5, 5, 5, 5, 10, 10, 1, 0);
        is("3 ahead of 4", x.fund(1, 0, 4, 10, 0), 3);
        is("without one that is worth nothing", x.fund(1, 0, 4, 500, 0), 7);
        Due.lay(x, 2, 1, 0, 1, 0);
        is("none, where all are worth nothing", x.fund(2, 0, 2, 500, 0), 0);
        int[] twelve = new int[24];
        for (int k = 0; k < 12; k++) {
            twelve[2 * k] = 100;
        }
        twelve[23] = 1;
        Due.lay(x, 3, twelve);
        is("roof 11", x.fund(3, 0, 12, 100, 0), 2048);
    }

    private void workItems() {
        terms("A USE PAYS: of n works (ITEMS: cost 1 to 1000, what it brings 0 to 1000)");
        int[][] pairs = {{0, 5}, {1, 5}, {1000, 5}, {1001, 5}, {5, -1}, {5, 0}, {5, 1000}, {5, 1001}, {LEAST, 5}, {5, MOST}};
        int[] due = {BAD, 1, 1000, BAD, BAD, NONE, 5, BAD, BAD, BAD};
        for (int k = 0; k < pairs.length; k++) {
            Due.lay(x, 0, pairs[k]);
            is(pairs[k][0] + ", " + pairs[k][1], x.use(0, 0, 1, 1, 0, 0, 1), due[k]);
        }
        Due.lay(x, 0, 1, 1, 1, 1, 1, 1001, 1, 1);
        is("each of them", x.use(0, 0, 4, 1, 0, 0, 1), BAD);
        is("but no others", x.use(0, 0, 2, 2, 0, 0, 1), 2);
        is("nor those ahead", x.use(0, 6, 1, 1, 0, 0, 1), 1);
    }

    private void aNeedOrMore() {
        terms("the set that brings a need (0 to 5000) or more");
        Due.lay(x, 0, 10, 100, 30, 250);
        is("-1", x.use(0, 0, 2, -1, 0, 0, 0), BAD);
        is("5001", x.use(0, 0, 2, 5001, 0, 0, 0), BAD);
        is("0: nothing is needed", x.use(0, 0, 2, 0, 0, 0, 0), 0);
        is("1", x.use(0, 0, 2, 1, 0, 0, 0), 1);
        is("100", x.use(0, 0, 2, 100, 0, 0, 0), 1);
        is("101", x.use(0, 0, 2, 101, 0, 0, 0), 2);
        is("250", x.use(0, 0, 2, 250, 0, 0, 0), 2);
        is("251", x.use(0, 0, 2, 251, 0, 0, 0), 3);
        is("350", x.use(0, 0, 2, 350, 0, 0, 0), 3);
        is("351", x.use(0, 0, 2, 351, 0, 0, 0), NONE);
        Due.lay(x, 1, 1, 1000, 1, 1000, 1, 1000, 1, 1000, 1, 1000);
        is("5000", x.use(1, 0, 5, 5000, 0, 0, 0), 31);
    }

    private void theLeastCost() {
        terms("with the least cost;");
        Due.lay(x, 0, 100, 50, 49, 25, 50, 25, 1000, 1000);
        is("99 of two, not 100 of one", x.use(0, 0, 4, 50, 0, 0, 0), 6);
        is("its cost", x.use(0, 0, 4, 50, 0, 0, 1), 99);
        is("not what brings the most", x.use(0, 0, 4, 25, 0, 0, 0), 2);
        is("1000 of one", x.use(0, 0, 4, 101, 0, 0, 1), 1000);
    }

    private void theLeastNumberOfWorks() {
        terms("of several the least number.");
        Due.lay(x, 0, 10, 5, 10, 9, 20, 14, 10, 9);
        is("1 (work 0), though it brings less", x.use(0, 0, 4, 5, 0, 0, 0), 1);
        is("2 (work 1) ahead of 8", x.use(0, 0, 4, 6, 0, 0, 0), 2);
        is("3 ahead of 4 and 9", x.use(0, 0, 4, 14, 0, 0, 0), 3);
        Due.lay(x, 1, 20, 14, 10, 9, 10, 5);
        is("1 ahead of 6", x.use(1, 0, 3, 14, 0, 0, 0), 1);
    }

    private void hardship() {
        terms("HARDSHIP: cost of that, less the GRANT for it by GRADE, less what the house is worth (0 to 100000), 0 at least.");
        Due.lay(x, 0, 1000, 10, 1, 1000);
        are("by grade", row(4, grade -> x.use(0, 0, 2, 1010, grade, 0, 2)), "1001 501 668 901");
        is("worth 500", x.use(0, 0, 2, 1010, 1, 500, 2), 1);
        is("worth 501", x.use(0, 0, 2, 1010, 1, 501, 2), 0);
        is("worth 502", x.use(0, 0, 2, 1010, 1, 502, 2), 0);
        is("worth 100000", x.use(0, 0, 2, 1010, 0, 100000, 2), 0);
        is("worth 100001", x.use(0, 0, 2, 1010, 0, 100001, 2), BAD);
        is("worth -1", x.use(0, 0, 2, 1010, 0, -1, 2), BAD);
        is("of nothing", x.use(0, 0, 2, 0, 0, 0, 2), 0);
        is("of the set that is cheapest", x.use(0, 0, 2, 1000, 0, 0, 2), 1);
    }

    private void grant() {
        promise(22, "A GRANT for a cost by GRADE (0 to 3).");
        are("of 30000", row(4, grade -> x.grant(30000, grade)), "0 15000 10000 3000");
        are("of 100000", row(4, grade -> x.grant(100000, grade)), "0 30000 15000 5000");
        promise(22, "BAD.");
        bad("cost", wrong -> x.grant(wrong, 0), -1, 100001);
        bad("grade", wrong -> x.grant(0, wrong), -1, 4);
    }

    private void fund() {
        promise(23, "A FUND over n roofs (1 to 12), two ITEMS each of a SHEET from i on: the set (what = 0), its worth (1).");
        for (int lane = 0; lane < 3; lane++) {
            x.sheet(lane, lane, 25);
            for (int k = 0; k < 12; k++) {
                x.set(lane, 2 * k + 1, 10);
                x.set(lane, 2 * k + 2, k + 1);
            }
            is("twelve, from 1 on", x.fund(lane, 1, 12, 120, 0), 4095);
            is("their worth", x.fund(lane, 1, 12, 120, 1), 78);
            is("the last alone", x.fund(lane, 23, 1, 10, 1), 12);
            is("one", x.fund(lane, 1, 1, 500, 0), 1);
        }
    }

    private void fundRefused() {
        promise(23, "BAD: SHEET, n, FUND, what;");
        Due.lay(x, 0, 1, 1);
        bad("sheet", wrong -> x.fund(wrong, 0, 1, 0, 0), -1, 8);
        bad("n", wrong -> x.fund(0, 0, wrong, 0, 0), -1, 0, 13);
        bad("fund", wrong -> x.fund(0, 0, 1, wrong, 0), -1, 501);
        bad("what", wrong -> x.fund(0, 0, 1, 0, wrong), -1, 2);
        promise(23, "NULL;");
        is("missing", x.fund(7, 0, 1, 0, 0), NULL);
        promise(23, "PLACE;");
        Due.lay(x, 0, 1, 1, 1, 1, 1);
        for (int wrong : new int[] {-1, 4, 5, 6, LEAST, MOST, MOST - 1}) {
            is("i " + wrong, x.fund(0, wrong, 1, 0, 0), PLACE);
        }
        is("the end", x.fund(0, 3, 1, 1, 0), 1);
        is("n beyond it", x.fund(0, 2, 2, 0, 0), PLACE);
        is("n just there", x.fund(0, 1, 2, 0, 0), 0);
        x.sheet(1, 0, 0);
        is("of none", x.fund(1, 0, 1, 0, 0), PLACE);
        promise(23, "then BAD: an ITEM.");
        Due.lay(x, 0, 0, 0);
        is("PLACE ahead of it", x.fund(0, 0, 2, 0, 0), PLACE);
        is("cost 0", x.fund(0, 0, 1, 0, 0), BAD);
        x.set(0, 0, 1);
        is("cost 1", x.fund(0, 0, 1, 0, 0), 0);
        x.set(0, 1, 1001);
        is("worth 1001", x.fund(0, 0, 1, 0, 0), BAD);
    }

    private void use() {
        promise(24, "A USE of n works (1 to 12), two ITEMS each of a SHEET from i on: the set (what = 0), its cost (1);");
        for (int lane = 0; lane < 3; lane++) {
            x.sheet(lane, lane, 25);
            for (int k = 0; k < 12; k++) {
                x.set(lane, 2 * k + 1, k + 1);
                x.set(lane, 2 * k + 2, 100);
            }
            is("twelve, from 1 on", x.use(lane, 1, 12, 1200, 0, 0, 0), 4095);
            is("their cost", x.use(lane, 1, 12, 1200, 0, 0, 1), 78);
            is("the last alone", x.use(lane, 23, 1, 100, 0, 0, 1), 12);
            is("one", x.use(lane, 1, 1, 100, 0, 0, 0), 1);
            is("its cost, without GRANT and worth", x.use(lane, 23, 1, 100, 1, 5, 1), 12);
            is("its set, whatever GRADE and worth", x.use(lane, 23, 1, 100, 1, 5, 0), 1);
        }
        promise(24, "HARDSHIP by GRADE and worth (2).");
        Due.lay(x, 0, 100, 100);
        is("grade 1", x.use(0, 0, 1, 100, 1, 9, 2), 41);
        is("grade 0", x.use(0, 0, 1, 100, 0, 9, 2), 91);
    }

    private void useNone() {
        promise(24, "NONE: none brings so much;");
        Due.lay(x, 0, 1, 10, 1, 20);
        is("30", x.use(0, 0, 2, 30, 0, 0, 0), 3);
        are("31", row(3, what -> x.use(0, 0, 2, 31, 0, 0, what)), NONE + " " + NONE + " " + NONE);
        are("5000", row(3, what -> x.use(0, 0, 2, 5000, 3, 100000, what)), NONE + " " + NONE + " " + NONE);
        Due.lay(x, 1, 1, 0);
        is("nothing brings 1", x.use(1, 0, 1, 1, 0, 0, 0), NONE);
        is("but 0", x.use(1, 0, 1, 0, 0, 0, 0), 0);
    }

    private void useRefused() {
        promise(24, "BAD: SHEET, n, need, GRADE, worth, what;");
        Due.lay(x, 0, 1, 1);
        bad("sheet", wrong -> x.use(wrong, 0, 1, 0, 0, 0, 0), -1, 8);
        bad("n", wrong -> x.use(0, 0, wrong, 0, 0, 0, 0), -1, 0, 13);
        bad("need", wrong -> x.use(0, 0, 1, wrong, 0, 0, 0), -1, 5001);
        bad("grade", wrong -> x.use(0, 0, 1, 0, wrong, 0, 0), -1, 4);
        bad("worth", wrong -> x.use(0, 0, 1, 0, 0, wrong, 0), -1, 100001);
        bad("what", wrong -> x.use(0, 0, 1, 0, 0, 0, wrong), -1, 3);
        promise(24, "NULL;");
        is("missing", x.use(7, 0, 1, 0, 0, 0, 0), NULL);
        promise(24, "PLACE;");
        Due.lay(x, 0, 1, 1, 1, 1, 1);
        for (int wrong : new int[] {-1, 4, 5, 6, LEAST, MOST, MOST - 1}) {
            is("i " + wrong, x.use(0, wrong, 1, 0, 0, 0, 0), PLACE);
        }
        is("the end", x.use(0, 3, 1, 1, 0, 0, 0), 1);
        is("n beyond it", x.use(0, 2, 2, 0, 0, 0, 0), PLACE);
        is("n just there", x.use(0, 1, 2, 0, 0, 0, 0), 0);
        x.sheet(1, 0, 0);
        is("of none", x.use(1, 0, 1, 0, 0, 0, 0), PLACE);
        promise(24, "then BAD: an ITEM.");
        Due.lay(x, 0, 0, 0);
        is("PLACE ahead of it", x.use(0, 0, 2, 0, 0, 0, 0), PLACE);
        is("cost 0", x.use(0, 0, 1, 0, 0, 0, 0), BAD);
        x.set(0, 0, 1);
        is("cost 1", x.use(0, 0, 1, 0, 0, 0, 0), 0);
        x.set(0, 1, 1001);
        is("brings 1001", x.use(0, 0, 1, 0, 0, 0, 0), BAD);
    }
}
