/** Promises 22 to 24 and 29: grant, fund, use, sight. */
public final class SumsTest {
    private static final Due due = new Due();
    private static final int BAD = GradedHouses.BAD, NONE = GradedHouses.NONE;

    public static void main(String[] args) {
        grant();
        fund();
        fundRefused();
        use();
        useRefused();
        sight();
        sightRefused();
        due.end();
    }

    private static void grant() {
        GradedHouses x = new GradedHouses();
        due.is("half", x.grant(59999, 1), 29999);
        due.is("half, the most", x.grant(60002, 1), 30000);
        due.is("third", x.grant(44999, 2), 14999);
        due.is("third, the most", x.grant(100000, 2), 15000);
        due.is("tenth", x.grant(49999, 3), 4999);
        due.is("tenth, the most", x.grant(50010, 3), 5000);
        due.is("nothing", x.grant(100000, 0), 0);
        due.is("of 0", x.grant(0, 1), 0);
        due.is("cost -1", x.grant(-1, 1), BAD);
        due.is("cost", x.grant(100001, 1), BAD);
        due.is("grade -1", x.grant(1, -1), BAD);
        due.is("grade 4", x.grant(1, 4), BAD);
    }

    private static void fund() {
        GradedHouses x = new GradedHouses();
        Due.lay(x, 0, 5, 5, 5, 5, 10, 10, 4, 0);
        due.is("nothing", x.fund(0, 0, 4, 0, 0), 0);
        due.is("worth of nothing", x.fund(0, 0, 4, 0, 1), 0);
        due.is("of two the least", x.fund(0, 0, 4, 5, 0), 1);
        due.is("0 and 1 ahead of 2", x.fund(0, 0, 4, 10, 0), 3);
        due.is("worth", x.fund(0, 0, 4, 10, 1), 10);
        due.is("0 and 2 ahead of 1 and 2", x.fund(0, 0, 4, 15, 0), 5);
        due.is("without what is worth nothing", x.fund(0, 0, 4, 500, 0), 7);
        due.is("from i on", x.fund(0, 2, 2, 10, 0), 2);
        due.is("of the first two alone", x.fund(0, 0, 2, 500, 0), 3);
        due.is("at the end", x.fund(0, 6, 1, 500, 0), 0);
        due.is("at the end, one more", x.fund(0, 4, 2, 10, 1), 10);
        Due.lay(x, 2, 1, 1);
        due.is("worth of 1", x.fund(2, 0, 1, 1, 0), 1);
        int[] twelve = new int[26];
        for (int k = 0; k < 12; k++) {
            twelve[2 * k + 1] = 41;
            twelve[2 * k + 2] = 1000 - k;
        }
        Due.lay(x, 1, twelve);
        due.is("all twelve", x.fund(1, 1, 12, 492, 0), 4095);
        due.is("their worth", x.fund(1, 1, 12, 500, 1), 12000 - 66);
        due.is("eleven", x.fund(1, 1, 12, 491, 0), 2047);
        x.set(1, 1, 100);
        x.set(1, 2, 1000);
        due.is("the dear one stays out", x.fund(1, 1, 12, 451, 0), 4094);
    }

    private static void fundRefused() {
        GradedHouses x = new GradedHouses();
        Due.lay(x, 0, 1, 1, 1, 1);
        due.is("sheet 8", x.fund(8, 0, 1, 0, 0), BAD);
        due.is("sheet -1", x.fund(-1, 0, 1, 0, 0), BAD);
        due.is("n 0", x.fund(0, 0, 0, 0, 0), BAD);
        due.is("n 13", x.fund(0, 0, 13, 0, 0), BAD);
        due.is("n, greatest", x.fund(0, 0, Integer.MAX_VALUE, 0, 0), BAD);
        due.is("fund -1", x.fund(0, 0, 1, -1, 0), BAD);
        due.is("fund 501", x.fund(0, 0, 1, 501, 0), BAD);
        due.is("what 2", x.fund(0, 0, 1, 0, 2), BAD);
        due.is("what -1", x.fund(0, 0, 1, 0, -1), BAD);
        due.is("NULL", x.fund(1, -1, 1, 0, 0), Due.NULL);
        due.is("PLACE -1", x.fund(0, -1, 1, 0, 0), Due.PLACE);
        due.is("PLACE", x.fund(0, 3, 1, 0, 0), Due.PLACE);
        due.is("PLACE of n", x.fund(0, 0, 3, 0, 0), Due.PLACE);
        due.is("PLACE, greatest", x.fund(0, Integer.MAX_VALUE, 1, 0, 0), Due.PLACE);
        x.set(0, 2, 0);
        due.is("cost 0", x.fund(0, 0, 2, 0, 0), BAD);
        due.is("not in these", x.fund(0, 0, 1, 0, 0), 0);
        due.is("PLACE ahead of an ITEM", x.fund(0, 2, 2, 0, 0), Due.PLACE);
        x.set(0, 2, 101);
        due.is("cost 101", x.fund(0, 0, 2, 0, 0), BAD);
        x.set(0, 2, 100);
        x.set(0, 3, -1);
        due.is("worth -1", x.fund(0, 0, 2, 0, 0), BAD);
        x.set(0, 3, 1001);
        due.is("worth 1001", x.fund(0, 0, 2, 0, 0), BAD);
        x.set(0, 3, 1000);
        due.is("edges", x.fund(0, 0, 2, 101, 1), 1001);
    }

    private static void use() {
        GradedHouses x = new GradedHouses();
        Due.lay(x, 0, 100, 50, 100, 50, 1000, 1000, 300, 100);
        due.is("need 0: nothing", x.use(0, 0, 4, 0, 0, 0, 0), 0);
        due.is("its cost", x.use(0, 0, 4, 0, 0, 0, 1), 0);
        due.is("of two the least", x.use(0, 0, 4, 50, 0, 0, 0), 1);
        due.is("two are cheaper than one", x.use(0, 0, 4, 51, 0, 0, 0), 3);
        due.is("cost", x.use(0, 0, 4, 51, 0, 0, 1), 200);
        due.is("more", x.use(0, 0, 4, 101, 0, 0, 0), 9);
        due.is("the great one alone", x.use(0, 0, 4, 201, 0, 0, 0), 4);
        due.is("all", x.use(0, 0, 4, 1200, 0, 0, 0), 15);
        due.is("hardship", x.use(0, 0, 4, 1200, 0, 0, 2), 1500);
        due.is("with a grant", x.use(0, 0, 4, 1200, 3, 49, 2), 1301);
        due.is("with a third", x.use(0, 0, 4, 1200, 2, 999, 2), 1);
        due.is("0 at least", x.use(0, 0, 4, 1200, 1, 751, 2), 0);
        due.is("just 0", x.use(0, 0, 4, 1200, 1, 750, 2), 0);
        due.is("none brings so much", x.use(0, 0, 4, 1201, 0, 0, 0), NONE);
        due.is("nor has it a cost", x.use(0, 0, 4, 1201, 0, 0, 1), NONE);
        due.is("nor hardship", x.use(0, 0, 4, 1201, 0, 0, 2), NONE);
        due.is("from i on", x.use(0, 2, 2, 51, 0, 0, 0), 2);
        due.is("of the first two alone", x.use(0, 0, 2, 101, 0, 0, 0), NONE);
        Due.lay(x, 1, 10, 5, 20, 10, 10, 5);
        due.is("1 ahead of 0 and 2", x.use(1, 0, 3, 10, 0, 0, 0), 2);
        int[] twelve = new int[24];
        for (int k = 0; k < 12; k++) {
            twelve[2 * k] = 1000;
            twelve[2 * k + 1] = 417;
        }
        Due.lay(x, 2, twelve);
        due.is("twelve", x.use(2, 0, 12, 5000, 0, 0, 0), 4095);
        due.is("twelve, cost", x.use(2, 0, 12, 5000, 1, 0, 2), 6000);
    }

    private static void useRefused() {
        GradedHouses x = new GradedHouses();
        Due.lay(x, 0, 1, 1, 1, 1);
        due.is("sheet 8", x.use(8, 0, 1, 0, 0, 0, 0), BAD);
        due.is("sheet -1", x.use(-1, 0, 1, 0, 0, 0, 0), BAD);
        due.is("n 0", x.use(0, 0, 0, 0, 0, 0, 0), BAD);
        due.is("n 13", x.use(0, 0, 13, 0, 0, 0, 0), BAD);
        due.is("need -1", x.use(0, 0, 1, -1, 0, 0, 0), BAD);
        due.is("need 5001", x.use(0, 0, 1, 5001, 0, 0, 0), BAD);
        due.is("grade -1", x.use(0, 0, 1, 0, -1, 0, 0), BAD);
        due.is("grade 4", x.use(0, 0, 1, 0, 4, 0, 0), BAD);
        due.is("worth -1", x.use(0, 0, 1, 0, 0, -1, 0), BAD);
        due.is("worth 100001", x.use(0, 0, 1, 0, 0, 100001, 0), BAD);
        due.is("what 3", x.use(0, 0, 1, 0, 0, 0, 3), BAD);
        due.is("what -1", x.use(0, 0, 1, 0, 0, 0, -1), BAD);
        due.is("NULL", x.use(1, -1, 1, 0, 0, 0, 0), Due.NULL);
        due.is("PLACE -1", x.use(0, -1, 1, 0, 0, 0, 0), Due.PLACE);
        due.is("PLACE", x.use(0, 3, 1, 0, 0, 0, 0), Due.PLACE);
        due.is("PLACE, greatest", x.use(0, Integer.MAX_VALUE, 12, 0, 0, 0, 0), Due.PLACE);
        x.set(0, 2, 0);
        due.is("cost 0", x.use(0, 0, 2, 0, 0, 0, 0), BAD);
        x.set(0, 2, 1001);
        due.is("cost 1001", x.use(0, 0, 2, 0, 0, 0, 0), BAD);
        x.set(0, 2, 1000);
        x.set(0, 3, -1);
        due.is("brings -1", x.use(0, 0, 2, 0, 0, 0, 0), BAD);
        x.set(0, 3, 1001);
        due.is("brings 1001", x.use(0, 0, 2, 0, 0, 0, 0), BAD);
        x.set(0, 3, 1000);
        due.is("edges", x.use(0, 0, 2, 1001, 0, 100000, 1), 1001);
    }

    private static void sight() {
        GradedHouses x = new GradedHouses();
        x.sheet(0, 0, 100);
        x.set(0, 4, 3);
        due.is("over the top", x.sight(0, 0, 0, 9, 0), 0);
        x.set(0, 4, 1);
        due.is("1 of 10/9", x.sight(0, 0, 0, 9, 0), 1);
        x.set(0, 4, 2);
        due.is("2 of 10/9", x.sight(0, 0, 0, 9, 0), 0);
        due.is("2 of 2 5/9 from the other side", x.sight(0, 9, 0, 0, 0), 0);
        x.set(0, 4, 0);
        x.set(0, 2, 1);
        due.is("as high as the line", x.sight(0, 0, 0, 4, 0), 1);
        x.set(0, 2, 2);
        due.is("higher", x.sight(0, 0, 0, 4, 0), 0);
        due.is("neighbours", x.sight(0, 1, 0, 2, 0), 1);
        due.is("its own height is no bar", x.sight(0, 2, 0, 9, 0), 1);
        x.set(0, 2, 0);
        x.set(0, 11, 9);
        due.is("the half goes up: 0, 0 to 2, 1 passes 1, 1", x.sight(0, 0, 0, 2, 1), 0);
        due.is("and so it does back: 2, 1 to 0, 0 passes 1, 1", x.sight(0, 2, 1, 0, 0), 0);
        due.is("1, 0 to 2, 2 passes 2, 1", x.sight(0, 1, 0, 2, 2), 1);
        due.is("0, 2 to 1, 0 passes 1, 1", x.sight(0, 0, 2, 1, 0), 0);
        due.is("2, 2 to 1, 0 passes 2, 1", x.sight(0, 2, 2, 1, 0), 1);
        due.is("down", x.sight(0, 1, 9, 1, 0), 0);
        x.sheet(1, 1, 100);
        x.set(1, 0, 100);
        x.set(1, 55, 40);
        due.is("from a height", x.sight(1, 0, 0, 9, 9), 1);
        x.set(1, 55, 46);
        due.is("too high", x.sight(1, 0, 0, 9, 9), 0);
        x.set(1, 99, 2);
        due.is("but not for a higher end", x.sight(1, 0, 0, 9, 9), 1);
        x.set(1, 55, 47);
        due.is("too high for that", x.sight(1, 0, 0, 9, 9), 0);
        x.sheet(1, 1, 100);
        x.set(1, 81, 2);
        due.is("2 of 1", x.sight(1, 1, 7, 1, 9), 0);
        due.is("the eye is 2 above: 2 of 4/3", x.sight(1, 1, 9, 1, 6), 0);
        x.set(1, 81, 1);
        due.is("far down in y", x.sight(1, 1, 7, 1, 9), 1);
        x.set(1, 70, 9);
        due.is("what lies beyond is no bar", x.sight(1, 0, 9, 2, 8), 1);
        x.set(1, 91, 9);
        due.is("0, 9 to 2, 8 passes 1, 9", x.sight(1, 0, 9, 2, 8), 0);
    }

    private static void sightRefused() {
        GradedHouses x = new GradedHouses();
        x.sheet(0, 2, 100);
        x.sheet(1, 2, 99);
        due.is("x1 -1", x.sight(0, -1, 0, 1, 1), BAD);
        due.is("x1 10", x.sight(0, 10, 0, 1, 1), BAD);
        due.is("y1 -1", x.sight(0, 0, -1, 1, 1), BAD);
        due.is("y1 10", x.sight(0, 0, 10, 1, 1), BAD);
        due.is("x2 -1", x.sight(0, 0, 0, -1, 1), BAD);
        due.is("x2 10", x.sight(0, 0, 0, 10, 1), BAD);
        due.is("y2 -1", x.sight(0, 0, 0, 1, -1), BAD);
        due.is("y2 10", x.sight(0, 0, 0, 1, 10), BAD);
        due.is("alike", x.sight(0, 4, 5, 4, 5), BAD);
        due.is("sheet 8", x.sight(8, 0, 0, 1, 1), BAD);
        due.is("sheet -1", x.sight(-1, 0, 0, 1, 1), BAD);
        due.is("BAD ahead of NULL", x.sight(2, 4, 5, 4, 5), BAD);
        due.is("NULL", x.sight(2, 0, 0, 1, 1), Due.NULL);
        x.set(1, 0, 101);
        due.is("PLACE ahead of an ITEM", x.sight(1, 0, 0, 1, 1), Due.PLACE);
        x.set(0, 99, 100);
        due.is("100", x.sight(0, 0, 0, 1, 1), 1);
        x.set(0, 99, 101);
        due.is("101, anywhere", x.sight(0, 0, 0, 1, 1), BAD);
        x.set(0, 99, -1);
        due.is("-1, anywhere", x.sight(0, 0, 0, 1, 1), BAD);
        x.set(0, 99, 0);
        x.set(0, 0, 101);
        due.is("101, at the first", x.sight(0, 4, 4, 1, 1), BAD);
    }
}
