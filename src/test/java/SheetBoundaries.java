/** SHEETS: what Terms say of them and of days, and promises 1 to 5 and 36. */
final class SheetBoundaries extends Boundaries {
    SheetBoundaries(Sentences document, Due due) {
        super(document, due);
    }

    @Override
    void all() {
        missingAtFirst();
        lanes();
        howManyItems();
        zeroAtFirst();
        days();
        yearOfADay();
        nothingIsTold();
        sheetInPlace();
        sheetRefused();
        setLowestBits();
        setRefused();
        copyAsTheyWere();
        copyRefused();
        copyBeyondAnEnd();
        dropped();
        dropRefused();
        statusOfTheLatest();
        statusPassesOver();
        statusZero();
    }

    private void missingAtFirst() {
        terms("SHEETS 0 .. 7 are missing (at first)");
        are("set", row(8, k -> x.set(k, 0, 0)), "-1000011 -1000011 -1000011 -1000011 -1000011 -1000011 -1000011 -1000011");
        is("set(-1, ..)", x.set(-1, 0, 0), BAD);
        is("set(8, ..)", x.set(8, 0, 0), BAD);
        is("count(0)", x.count(0), 0);
        are("sheet", row(8, k -> x.sheet(k, 0, k)), "0 1 2 3 4 5 6 7");
        is("count(0) then", x.count(0), 8);
    }

    private void lanes() {
        terms("or have a LANE (0 bytes, 1 shorts, 2 ints)");
        is("lane -1", x.sheet(0, -1, 1), BAD);
        are("lanes", row(3, lane -> x.sheet(lane, lane, 1)), "1 1 1");
        is("lane 3", x.sheet(3, 3, 1), BAD);
        are("bits of a lane", row(3, k -> x.set(k, 0, 0x12345678)), 0x78 + " " + 0x5678 + " " + 0x12345678);
    }

    private void howManyItems() {
        terms("and 0 to 100 ITEMS");
        is("0", x.sheet(0, 0, 0), 0);
        is("0 has no place", x.set(0, 0, 1), PLACE);
        is("100", x.sheet(1, 0, 100), 100);
        is("100 have place 99", x.set(1, 99, 1), 1);
        is("but not 100", x.set(1, 100, 1), PLACE);
        is("101", x.sheet(2, 0, 101), BAD);
        is("-1", x.sheet(2, 0, -1), SIZE);
        is("count(0)", x.count(0), 2);
    }

    private void zeroAtFirst() {
        terms("ITEMS, 0 at first.");
        for (int lane = 0; lane < 3; lane++) {
            x.sheet(lane, lane, 100);
            is("cost 0", x.use(lane, 98, 1, 0, 0, 0, 0), BAD);
            x.set(lane, 98, 1);
            is("brings 0", x.use(lane, 98, 1, 0, 0, 0, 0), 0);
            is("brings not 1", x.use(lane, 98, 1, 1, 0, 0, 0), NONE);
        }
        x.sheet(2, 2, 100);
        is("flat ground", x.sight(2, 0, 0, 9, 9), 1);
        x.set(2, 99, 101);
        x.sheet(2, 2, 100);
        is("flat again", x.sight(2, 0, 0, 9, 9), 1);
    }

    private void days() {
        terms("Days are 0 to 99999;");
        is("day(0)", x.day(0), 0);
        is("day(-1)", x.day(-1), BAD);
        is("day(99999)", x.day(LAST_DAY), 0);
        is("day(100000)", x.day(100000), BAD);
        is("day(least)", x.day(LEAST), BAD);
        is("day(most)", x.day(MOST), BAD);
        is("still", x.day(0), LAST_DAY);
    }

    private void yearOfADay() {
        terms("year of a day: 1700 and the day by 365.");
        x.house();
        x.part(0, 0, 1700, 0);
        int[] days = {0, 1, 364, 365, 729, 730, 36499, 36500, 99644, 99645, 99999};
        int[] years = {0, 0, 0, 1, 1, 2, 99, 100, 272, 273, 273};
        for (int k = 0; k < days.length; k++) {
            x.day(days[k]);
            is("on day " + days[k], x.told(0, 4), years[k]);
        }
    }

    private void nothingIsTold() {
        promise(1, "Nothing is told.");
        are("count", row(10, k -> x.count(k)), "0 0 0 0 0 0 0 0 0 0");
        is("status()", x.status(), 0);
        is("fault()", x.fault(), 0);
        is("trace(0)", x.trace(0), NONE);
        is("acts()", x.acts(), 0);
        is("binds", x.binds(0, LAST_DAY), NONE);
        is("day", x.day(0), 0);
        is("grade", x.grade(0, 0, 0), BAD);
        is("told", x.told(0, 0), BAD);
        is("conditions", x.conditions(0, 0), BAD);
        is("judged", x.judged(0, 0), BAD);
        is("the first rule", x.ahead(0, 1), 1);
        is("the first house", x.house(), 0);
        is("the first row", x.list(0, 1, 0, 0), 1);
        is("the first byte", x.feed(32, 1), 1);
    }

    private void sheetInPlace() {
        promise(2, "A SHEET of a LANE with n ITEMS, in place of what is there: n.");
        is("sheet", x.sheet(7, 2, 2), 2);
        is("wide", x.set(7, 0, 70000), 70000);
        is("another", x.sheet(7, 0, 3), 3);
        is("narrow", x.set(7, 2, 70000), 112);
        is("the old items are gone", x.use(7, 0, 1, 0, 0, 0, 0), BAD);
        is("a smaller one", x.sheet(7, 0, 1), 1);
        is("without the old places", x.set(7, 1, 0), PLACE);
        is("one sheet", x.count(0), 1);
        x.sheet(7, 0, 3);
        is("nor do they come back", x.use(7, 1, 1, 0, 0, 0, 0), BAD);
    }

    private void sheetRefused() {
        promise(2, "BAD: SHEET, LANE, n above 100;");
        bad("sheet", wrong -> x.sheet(wrong, 0, 1), -1, 8);
        bad("lane", wrong -> x.sheet(0, wrong, 1), -1, 3);
        is("101", x.sheet(0, 0, 101), BAD);
        is("most", x.sheet(0, 0, MOST), BAD);
        is("100", x.sheet(0, 0, 100), 100);
        promise(2, "SIZE.");
        is("-1", x.sheet(0, 0, -1), SIZE);
        is("least", x.sheet(0, 2, LEAST), SIZE);
        is("none came", x.count(0), 0);
        is("0", x.sheet(0, 0, 0), 0);
    }

    private void setLowestBits() {
        promise(3, "ITEM i becomes v, its lowest bits, as many as the LANE has: what it is then.");
        x.sheet(0, 0, 1);
        x.sheet(1, 1, 1);
        x.sheet(2, 2, 1);
        int[] given = {127, 128, 255, 256, -128, -129, -256, 32767, 32768, 65535, 65536, -32768, -32769, MOST, LEAST};
        int[] bytes = {127, -128, -1, 0, -128, 127, 0, -1, 0, -1, 0, 0, -1, -1, 0};
        int[] shorts = {127, 128, 255, 256, -128, -129, -256, 32767, -32768, -1, 0, -32768, 32767, -1, 0};
        for (int k = 0; k < given.length; k++) {
            is("bytes, " + given[k], x.set(0, 0, given[k]), bytes[k]);
            is("shorts, " + given[k], x.set(1, 0, given[k]), shorts[k]);
            is("ints, " + given[k], x.set(2, 0, given[k]), given[k]);
        }
        x.sheet(0, 0, 2);
        x.set(0, 1, 7);
        x.set(0, 0, 256 + 5);
        is("it is that from then on", x.use(0, 0, 1, 7, 0, 0, 1), 5);
    }

    private void setRefused() {
        promise(3, "BAD: SHEET;");
        bad("sheet", wrong -> x.set(wrong, 0, 1), -1, 8);
        promise(3, "NULL;");
        is("missing", x.set(7, 0, 1), NULL);
        x.sheet(7, 0, 1);
        x.drop(7);
        is("missing again", x.set(7, 0, 1), NULL);
        promise(3, "PLACE.");
        x.sheet(0, 0, 3);
        for (int wrong : new int[] {-1, 3, 100, LEAST, MOST}) {
            is("place " + wrong, x.set(0, wrong, 1), PLACE);
        }
        is("place 0", x.set(0, 0, 1), 1);
        is("place 2", x.set(0, 2, 1), 1);
        x.sheet(1, 0, 0);
        is("of none", x.set(1, 0, 1), PLACE);
    }

    /** Worths of roofs of cost 1, each read alone. */
    private String worths(int sheet, int n) {
        return row(n, k -> x.fund(sheet, 2 * k, 1, 1, 1));
    }

    private void copyAsTheyWere() {
        promise(4, "n ITEMS of a from i on come to b from j on, as they were ahead: n.");
        Due.lay(x, 0, 1, 11, 1, 12, 1, 13, 1, 14);
        Due.lay(x, 1, 1, 1, 1, 2, 1, 3);
        is("up over itself", x.copy(0, 0, 0, 2, 6), 6);
        are("up", worths(0, 4), "11 11 12 13");
        is("down over itself", x.copy(0, 2, 0, 0, 6), 6);
        are("down", worths(0, 4), "11 12 13 13");
        is("to another", x.copy(0, 2, 1, 0, 4), 4);
        are("the other", worths(1, 3), "12 13 3");
        are("the first stays", worths(0, 4), "11 12 13 13");
        is("none", x.copy(0, 0, 1, 0, 0), 0);
        are("none came", worths(1, 3), "12 13 3");
        is("all over itself", x.copy(0, 0, 0, 0, 8), 8);
        are("stays", worths(0, 4), "11 12 13 13");
    }

    private void copyRefused() {
        promise(4, "BAD: SHEETS;");
        x.sheet(0, 0, 1);
        bad("a", wrong -> x.copy(wrong, 0, 0, 0, 0), -1, 8);
        bad("b", wrong -> x.copy(0, 0, wrong, 0, 0), -1, 8);
        promise(4, "NULL;");
        x.sheet(0, 0, 1);
        is("a", x.copy(7, 0, 0, 0, 0), NULL);
        is("b", x.copy(0, 0, 7, 0, 0), NULL);
        is("both", x.copy(7, 0, 7, 0, 0), NULL);
        promise(4, "STORE;");
        x.sheet(0, 0, 2);
        x.sheet(1, 1, 2);
        x.sheet(2, 2, 2);
        is("bytes to shorts", x.copy(0, 0, 1, 0, 1), STORE);
        is("bytes to ints", x.copy(0, 0, 2, 0, 1), STORE);
        is("shorts to bytes", x.copy(1, 0, 0, 0, 1), STORE);
        is("shorts to ints", x.copy(1, 0, 2, 0, 1), STORE);
        is("ints to bytes", x.copy(2, 0, 0, 0, 1), STORE);
        is("ints to shorts", x.copy(2, 0, 1, 0, 1), STORE);
        is("of none, too", x.copy(0, 0, 1, 0, 0), STORE);
        x.sheet(3, 0, 9);
        is("of one lane", x.copy(0, 0, 3, 0, 2), 2);
    }

    private void copyBeyondAnEnd() {
        promise(4, "PLACE (i, j, n below 0, or beyond an end).");
        x.sheet(0, 0, 4);
        x.sheet(1, 0, 3);
        is("i -1", x.copy(0, -1, 1, 0, 1), PLACE);
        is("j -1", x.copy(0, 0, 1, -1, 1), PLACE);
        is("n -1", x.copy(0, 1, 1, 1, -1), PLACE);
        is("the end of a", x.copy(1, 0, 0, 0, 4), PLACE);
        is("just the end of a", x.copy(1, 0, 0, 1, 3), 3);
        is("the end of a, by i", x.copy(1, 1, 0, 0, 3), PLACE);
        is("the end of b", x.copy(0, 0, 1, 0, 4), PLACE);
        is("just the end of b", x.copy(0, 1, 1, 0, 3), 3);
        is("the end of b, by j", x.copy(0, 0, 1, 1, 3), PLACE);
        is("none at both ends", x.copy(0, 4, 1, 3, 0), 0);
        is("none beyond a", x.copy(0, 5, 1, 3, 0), PLACE);
        is("none beyond b", x.copy(0, 4, 1, 4, 0), PLACE);
        is("i + n wraps around", x.copy(0, MOST, 1, 0, MOST), PLACE);
        is("j + n wraps around", x.copy(0, 0, 1, MOST, 1), PLACE);
        is("least", x.copy(0, LEAST, 1, LEAST, LEAST), PLACE);
        is("n below 0 and i beyond it", x.copy(0, 2, 1, 2, LEAST), PLACE);
    }

    private void dropped() {
        promise(5, "A SHEET is missing from now on: how many ITEMS it had.");
        x.sheet(0, 0, 0);
        x.sheet(7, 2, 100);
        is("100", x.drop(7), 100);
        is("count(0)", x.count(0), 1);
        is("0", x.drop(0), 0);
        is("count(0), none", x.count(0), 0);
        is("set", x.set(7, 0, 0), NULL);
        is("copy", x.copy(7, 0, 7, 0, 0), NULL);
        is("fund", x.fund(7, 0, 1, 0, 0), NULL);
        is("use", x.use(7, 0, 1, 0, 0, 0, 0), NULL);
        is("sight", x.sight(7, 0, 0, 1, 1), NULL);
        is("laid anew", x.sheet(7, 1, 2), 2);
    }

    private void dropRefused() {
        promise(5, "BAD;");
        bad("sheet", wrong -> x.drop(wrong), -1, 8);
        promise(5, "NULL.");
        is("missing", x.drop(0), NULL);
        x.sheet(0, 0, 1);
        is("there", x.drop(0), 1);
        is("dropped", x.drop(0), NULL);
    }

    private void statusOfTheLatest() {
        promise(36, "Of the latest call with a SHEET, or as(),");
        housed(2, 1600);
        is("as KIND", x.as(0, 3), KIND);
        is("3", x.status(), 3);
        is("set NULL", x.set(0, 0, 0), NULL);
        is("1", x.status(), 1);
        is("sheet SIZE", x.sheet(0, 0, -1), SIZE);
        is("4", x.status(), 4);
        x.sheet(0, 0, 1);
        x.sheet(1, 1, 1);
        is("copy STORE", x.copy(0, 0, 1, 0, 0), STORE);
        is("5", x.status(), 5);
        is("fund PLACE", x.fund(0, 0, 1, 0, 0), PLACE);
        is("2", x.status(), 2);
        is("drop NULL", x.drop(2), NULL);
        is("1 again", x.status(), 1);
        is("use PLACE", x.use(0, 0, 1, 0, 0, 0, 0), PLACE);
        is("2 again", x.status(), 2);
        is("sight NULL", x.sight(2, 0, 0, 1, 1), NULL);
        is("1, by sight", x.status(), 1);
        is("it may be asked twice", x.status(), 1);
    }

    private void statusPassesOver() {
        promise(36, "that was not BAD, STATE, FULL:");
        housed(2, 1600);
        x.as(0, 3);
        x.sheet(8, 0, 0);
        x.set(8, 0, 0);
        x.copy(0, 0, 8, 0, 0);
        x.drop(8);
        x.fund(8, 0, 0, 0, 0);
        x.use(8, 0, 0, 0, 0, 0, 0);
        x.sight(0, 0, 0, 0, 0);
        x.as(0, 4);
        x.as(1, 0);
        is("BAD", x.status(), 3);
        x.leave(0, 0, 0, 0, 1);
        is("STATE", x.prove(0, 1, 0), STATE);
        is("a call without a SHEET", x.prove(0, 0, 0), 1);
        is("after them", x.status(), 3);
        for (int k = 1; k < 6; k++) {
            x.house();
        }
        is("FULL", x.house(), FULL);
        is("after that", x.status(), 3);
        x.sheet(0, 2, 100);
        x.as(0, 3);
        is("fund, BAD by an ITEM", x.fund(0, 0, 1, 0, 0), BAD);
        is("use, BAD by an ITEM", x.use(0, 0, 1, 0, 0, 0, 0), BAD);
        x.set(0, 0, 101);
        x.as(0, 3);
        is("sight, BAD by an ITEM", x.sight(0, 0, 0, 1, 1), BAD);
        is("after them all", x.status(), 3);
        x.kind(0);
        x.ask(0, 0);
        x.day(5);
        x.count(0);
        is("other calls", x.status(), 3);
    }

    private void statusZero() {
        promise(36, "the number of its FINDING; 0: it had none, or there was none.");
        is("there was none", x.status(), 0);
        housed(2, 1600);
        int found = x.as(0, 3);
        is("KIND", found, KIND);
        x.sheet(0, 2, 100);
        is("after sheet", x.status(), 0);
        x.as(0, 3);
        x.set(0, 0, 1);
        is("after set", x.status(), 0);
        x.as(0, 3);
        x.copy(0, 0, 0, 0, 0);
        is("after copy", x.status(), 0);
        x.as(0, 3);
        is("fund", x.fund(0, 0, 1, 0, 0), 0);
        is("after fund", x.status(), 0);
        x.as(0, 3);
        is("use", x.use(0, 0, 1, 0, 0, 0, 0), 0);
        is("after use", x.status(), 0);
        x.as(0, 3);
        is("use, NONE", x.use(0, 0, 1, 1, 0, 0, 0), NONE);
        is("after NONE", x.status(), 0);
        x.as(0, 3);
        is("sight", x.sight(0, 0, 0, 1, 1), 1);
        is("after sight", x.status(), 0);
        x.as(0, 3);
        x.drop(0);
        is("after drop", x.status(), 0);
        x.as(0, 3);
        is("as", x.as(0, 1), 1600);
        is("after as", x.status(), 0);
    }
}
