/** LEAVES, CONDITIONS and their ORDER, WORKS and how they are JUDGED, and promises 15 to 21. */
final class LeaveBoundaries extends Boundaries {
    LeaveBoundaries(Sentences document, Due due) {
        super(document, due);
    }

    @Override
    void all() {
        tenLeaves();
        fromOneDayToAnother();
        conditionBits();
        provenOnce();
        thirtyRules();
        rows();
        bars();
        twentyWorks();
        free();
        lawful();
        unmet();
        past();
        early();
        without();
        putBack();
        leave();
        leaveRefused();
        prove();
        proveRefused();
        ahead();
        conditions();
        row();
        work();
        judged();
    }

    /** A part of 1600 in a house of grade 1, of which changes need leave from day 0 on. */
    private void needing() {
        housed(1, 1600);
        Due.read(x, "act 0 grade 1 any change needs;");
    }

    private int judgedOn(int day) {
        return x.judged(x.work(0, 1, day), 0);
    }

    private void tenLeaves() {
        terms("LEAVES 0 .. 9 (10 at most):");
        housed(1, 1600);
        are("leaves", row(10, k -> x.leave(0, 0, 0, 0, 0)), "0 1 2 3 4 5 6 7 8 9");
        is("an eleventh", x.leave(0, 0, 0, 0, 0), FULL);
        is("count(6)", x.count(6), 10);
        is("leave 9", x.conditions(9, 0), 0);
        is("leave 10", x.conditions(10, 0), BAD);
    }

    private void fromOneDayToAnother() {
        terms("a PART, a work, from a day to another one (among them),");
        needing();
        x.leave(0, 1, 100, 200, 0);
        is("ahead", judgedOn(99), 4);
        is("the first day", judgedOn(100), 1);
        is("the last day", judgedOn(200), 1);
        is("behind", judgedOn(201), 3);
        x.part(0, 1, 1600, 0);
        is("another part", x.judged(x.work(1, 1, 150), 0), 5);
        Due.read(x, "act 0 grade 1 any remove needs;");
        is("another work", x.judged(x.work(0, 2, 150), 0), 5);
        x.leave(0, 1, 300, 300, 0);
        is("of one day", judgedOn(300), 1);
    }

    private void conditionBits() {
        terms("CONDITIONS (bits 0 to 7).");
        housed(1, 1600);
        is("-1", x.leave(0, 0, 0, 0, -1), BAD);
        is("256", x.leave(0, 0, 0, 0, 256), BAD);
        is("none", x.leave(0, 0, 0, 0, 0), 0);
        is("all", x.leave(0, 0, 0, 0, 255), 1);
        are("how many", x.conditions(0, 0) + " " + x.conditions(1, 0), "0 8");
        for (int bit = 0; bit < 8; bit++) {
            x.leave(0, 0, 0, 0, 1 << bit);
            is("bit " + bit, x.row(bit + 2, 0), bit);
            is("prove", x.prove(bit + 2, bit, 0), 1);
        }
    }

    private void provenOnce() {
        terms("A CONDITION of a LEAVE may be PROVEN on a day (once).");
        needing();
        x.leave(0, 1, 0, 99, 1);
        x.leave(0, 1, 0, 99, 1);
        is("once", x.prove(0, 0, 50), 1);
        is("twice", x.prove(0, 0, 10), STATE);
        is("the first day stays", judgedOn(49), 2);
        is("that day", judgedOn(50), 1);
        is("of another leave", x.prove(1, 0, 10), 1);
        is("by that one", judgedOn(49), 1);
    }

    private void thirtyRules() {
        terms("ORDER of a LEAVE's CONDITIONS: rules \"a ahead of b\", as they are told (30 at most, for all LEAVES):");
        housed(1, 1600);
        x.leave(0, 0, 0, 0, 3);
        x.leave(0, 0, 0, 0, 7);
        for (int k = 1; k <= 29; k++) {
            is("rule", x.ahead(1, 0), k);
        }
        is("the 30th", x.ahead(2, 1), 30);
        is("a 31st", x.ahead(0, 2), FULL);
        is("for one leave", x.conditions(0, 2), 1);
        is("for another", x.conditions(1, 2), 1);
        are("its row", row(3, k -> x.row(1, k)), "2 1 0");
    }

    private void rows() {
        terms("ROWS: how many orders of its CONDITIONS keep all rules between two of them (1, if it has none).");
        housed(1, 1600);
        x.leave(0, 0, 0, 0, 0);
        x.leave(0, 0, 0, 0, 255);
        x.leave(0, 0, 0, 0, 0b10000001);
        x.leave(0, 0, 0, 0, 0b00010000);
        are("without rules", row(4, k -> x.conditions(k, 2)), "1 40320 2 1");
        x.ahead(7, 0);
        x.ahead(7, 0);
        are("with one", row(4, k -> x.conditions(k, 2)), "1 20160 1 1");
        x.ahead(0, 4);
        are("not between two of them", row(4, k -> x.conditions(k, 2)), "1 6720 1 1");
        x.ahead(4, 7);
        are("a ring", row(4, k -> x.conditions(k, 2)), "1 0 1 1");
        anew();
        housed(1, 1600);
        x.leave(0, 0, 0, 0, 0b111);
        x.ahead(1, 0);
        x.ahead(2, 0);
        is("all rules, two of them for one", x.conditions(0, 2), 2);
        are("the first row then", row(3, k -> x.row(0, k)), "1 2 0");
    }

    private void bars() {
        terms("A BAR, where there are no ROWS: CONDITIONS that have no other one left ahead of them are taken away, over and over; the least one that is left.");
        housed(1, 1600);
        x.leave(0, 0, 0, 0, 255);
        x.leave(0, 0, 0, 0, 0b00111111);
        x.leave(0, 0, 0, 0, 0);
        are("none, with rows", row(3, k -> x.conditions(k, 3)), NONE + " " + NONE + " " + NONE);
        x.ahead(1, 0);
        x.ahead(2, 1);
        x.ahead(6, 7);
        x.ahead(7, 6);
        are("2, 1, 0 go one after another", row(3, k -> x.conditions(k, 3)), "6 " + NONE + " " + NONE);
        x.ahead(7, 3);
        is("3 waits for the ring", x.conditions(0, 3), 3);
        x.ahead(3, 2);
        is("and so does 0", x.conditions(0, 3), 0);
        is("without the ring", x.conditions(1, 3), NONE);
        x.ahead(5, 4);
        x.ahead(4, 5);
        is("a ring of 4 and 5", x.conditions(1, 3), 4);
    }

    private void twentyWorks() {
        terms("WORKS, as they are told (20 at most): a PART, a work, a day.");
        housed(1, 1600);
        for (int k = 0; k < 20; k++) {
            is("work", x.work(0, k % 4, k == 0 ? 0 : LAST_DAY), k);
        }
        is("a 21st", x.work(0, 0, 0), FULL);
        is("count(7)", x.count(7), 20);
        is("work 19", x.judged(19, 0), 0);
        is("work 20", x.judged(20, 0), BAD);
    }

    private void free() {
        terms("JUDGED: 0 FREE: it does not NEED leave;");
        housed(1, 1600);
        Due.read(x, "act 100 grade 1 any change needs;act 200 grade 1 any change free;");
        is("ahead of the act", judgedOn(99), 0);
        is("on its day", judgedOn(100), 5);
        is("ahead of the next", judgedOn(199), 5);
        is("freed", judgedOn(200), 0);
        x.leave(0, 1, 300, 400, 1);
        is("though a leave has the day", judgedOn(300), 0);
        is("another work", x.judged(x.work(0, 0, 150), 0), 0);
    }

    private void lawful() {
        terms("else of LEAVES of that PART and work: 1 LAWFUL: one has the day, and all its CONDITIONS were PROVEN by then (that day or ahead);");
        needing();
        x.leave(0, 1, 100, 200, 0b10000001);
        x.leave(0, 1, 0, 99, 0);
        x.leave(0, 1, 201, 300, 0);
        x.prove(0, 0, 150);
        is("one is proven", judgedOn(160), 2);
        x.prove(0, 7, 160);
        is("a day ahead", judgedOn(159), 2);
        is("that day", judgedOn(160), 1);
        is("later", judgedOn(200), 1);
        is("another leave, without conditions", judgedOn(0), 1);
        is("ahead of a third", judgedOn(201), 1);
        x.part(0, 0, 1600, 0);
        is("of another part", x.judged(x.work(1, 1, 160), 0), 5);
    }

    private void unmet() {
        terms("2 UNMET: one has the day;");
        needing();
        x.leave(0, 1, 100, 100, 1);
        is("ahead", judgedOn(99), 4);
        is("that day", judgedOn(100), 2);
        is("behind", judgedOn(101), 3);
        x.leave(0, 1, 0, 50, 0);
        x.leave(0, 1, 150, 200, 0);
        is("whatever the others are", judgedOn(100), 2);
        x.prove(0, 0, 101);
        is("proven a day late", judgedOn(100), 2);
    }

    private void past() {
        terms("3 PAST: one ended ahead of it;");
        needing();
        x.leave(0, 1, 10, 20, 0);
        is("its last day", judgedOn(20), 1);
        is("a day behind", judgedOn(21), 3);
        x.leave(0, 1, 100, 200, 0);
        is("though another is to come", judgedOn(21), 3);
        is("up to that", judgedOn(99), 3);
    }

    private void early() {
        terms("4 EARLY: one begins behind it;");
        needing();
        x.leave(0, 1, 100, 200, 0);
        is("a day ahead", judgedOn(99), 4);
        is("its first day", judgedOn(100), 1);
        is("day 0", judgedOn(0), 4);
    }

    private void without() {
        terms("5 WITHOUT.");
        needing();
        x.part(0, 0, 1600, 0);
        is("no leave", judgedOn(5), 5);
        x.leave(1, 1, 0, LAST_DAY, 0);
        x.leave(0, 0, 0, LAST_DAY, 0);
        x.leave(0, 2, 0, LAST_DAY, 0);
        is("leaves of another part or work", judgedOn(5), 5);
        x.leave(0, 1, 5, 5, 0);
        is("told later", x.judged(0, 0), 1);
    }

    private int putBackOn(int part, int day) {
        return x.judged(x.work(part, 1, day), 1);
    }

    private void putBack() {
        terms("PUT BACK is due for WITHOUT, and for EARLY with a PART that is KEPT or PRIME on that day.");
        x.house();
        x.list(0, 2, 0, 0);
        x.list(0, 1, 1000, 1000);
        x.part(0, 0, 1601, 0);
        x.part(0, 0, 1690, 0);
        Due.read(x, "act 0 grade 2 any change needs;act 0 grade 1 any change needs;");
        is("WITHOUT, a PART", putBackOn(0, 0), 1);
        is("WITHOUT, YOUNG", putBackOn(1, 0), 1);
        x.leave(0, 1, 5000, 5001, 1);
        x.leave(1, 1, 5000, 5001, 1);
        is("EARLY, a year short of KEPT", putBackOn(0, 364), 0);
        is("EARLY, KEPT", putBackOn(0, 365), 1);
        is("EARLY, PRIME", putBackOn(0, 1000), 1);
        is("EARLY, YOUNG", putBackOn(1, 365), 0);
        is("UNMET, PRIME", putBackOn(0, 5000), 0);
        is("PAST, PRIME", putBackOn(0, 5002), 0);
        x.prove(0, 0, 0);
        is("LAWFUL, PRIME", putBackOn(0, 5001), 0);
        is("FREE, PRIME", x.judged(x.work(0, 0, 1000), 1), 0);
        x.day(LAST_DAY);
        is("on that day, not on THE DAY", putBackOn(0, 364), 0);
        x.list(0, 0, 365, 366);
        Due.read(x, "act 365 grade 2 any change needs;");
        is("as known that day", putBackOn(0, 365), 1);
    }

    private void leave() {
        promise(15, "A LEAVE: its number.");
        housed(1, 1600);
        is("first", x.leave(0, 0, 0, 0, 0), 0);
        is("second, alike", x.leave(0, 0, 0, 0, 0), 1);
        promise(15, "FULL: 10.");
        housed(1, 1600);
        for (int k = 0; k < 10; k++) {
            is("leave", x.leave(0, 3, 0, LAST_DAY, 255), k);
        }
        is("an eleventh", x.leave(0, 3, 0, LAST_DAY, 255), FULL);
        is("count(6)", x.count(6), 10);
    }

    private void leaveRefused() {
        promise(15, "BAD: PART, work, days (to not below from), CONDITIONS (0 to 255);");
        x.house();
        is("no part", x.leave(0, 0, 0, 0, 0), BAD);
        x.part(0, 0, 1600, 0);
        bad("part", wrong -> x.leave(wrong, 0, 0, 0, 0), -1, 1);
        bad("work", wrong -> x.leave(0, wrong, 0, 0, 0), -1, 4);
        bad("from", wrong -> x.leave(0, 0, wrong, LAST_DAY, 0), -1, 100000);
        bad("to", wrong -> x.leave(0, 0, 0, wrong, 0), -1, 100000);
        bad("both", wrong -> x.leave(0, 0, wrong, wrong, 0), -1, 100000);
        is("to below from", x.leave(0, 0, 1, 0, 0), BAD);
        is("at the last day", x.leave(0, 0, LAST_DAY, 99998, 0), BAD);
        bad("conditions", wrong -> x.leave(0, 0, 0, 0, wrong), -1, 256);
        is("count(6)", x.count(6), 0);
        is("to alike from", x.leave(0, 3, LAST_DAY, LAST_DAY, 255), 0);
    }

    private void prove() {
        promise(16, "A CONDITION (0 to 7) of a LEAVE is PROVEN on a day: 1.");
        housed(1, 1600);
        x.leave(0, 0, 0, 0, 255);
        for (int c = 0; c < 8; c++) {
            is("prove", x.prove(0, c, c == 0 ? 0 : LAST_DAY), 1);
            is("how many", x.conditions(0, 1), c + 1);
        }
    }

    private void proveRefused() {
        promise(16, "BAD;");
        housed(1, 1600);
        is("no leave", x.prove(0, 0, 0), BAD);
        x.leave(0, 0, 0, 0, 255);
        bad("leave", wrong -> x.prove(wrong, 0, 0), -1, 1);
        bad("condition", wrong -> x.prove(0, wrong, 0), -1, 8, 32);
        bad("day", wrong -> x.prove(0, 0, wrong), -1, 100000);
        is("none proven", x.conditions(0, 1), 0);
        promise(16, "STATE: it is none of this LEAVE, or was PROVEN.");
        housed(1, 1600);
        x.leave(0, 0, 0, 0, 0b01111110);
        x.leave(0, 0, 0, 0, 0b10000001);
        is("0 is none", x.prove(0, 0, 0), STATE);
        is("7 is none", x.prove(0, 7, 0), STATE);
        is("but of the other", x.prove(1, 7, 0), 1);
        is("1", x.prove(0, 1, 5), 1);
        is("1 was", x.prove(0, 1, 5), STATE);
        is("1 was, on another day", x.prove(0, 1, 6), STATE);
        is("one proven", x.conditions(0, 1), 1);
    }

    private void ahead() {
        promise(17, "Rule: CONDITION a ahead of b: how many rules there are.");
        is("one", x.ahead(0, 7), 1);
        is("the other way round", x.ahead(7, 0), 2);
        is("told again", x.ahead(0, 7), 3);
        promise(17, "BAD (alike, too);");
        bad("a", wrong -> x.ahead(wrong, 0), -1, 8, 32);
        bad("b", wrong -> x.ahead(0, wrong), -1, 8, 32);
        bad("both", wrong -> x.ahead(wrong, wrong), -1, 8, 32);
        for (int c = 0; c < 8; c++) {
            is("alike " + c, x.ahead(c, c), BAD);
        }
        is("the first", x.ahead(0, 1), 1);
        promise(17, "FULL: 30.");
        for (int k = 1; k <= 30; k++) {
            is("rule", x.ahead(k % 7, 7), k);
        }
        is("a 31st", x.ahead(7, 6), FULL);
        is("told before, too", x.ahead(0, 7), FULL);
    }

    private void conditions() {
        promise(18, "Of a LEAVE's CONDITIONS: 0 how many, 1 how many are PROVEN, 2 ROWS, 3 the BAR (NONE).");
        housed(1, 1600);
        x.leave(0, 0, 0, 0, 0);
        x.leave(0, 0, 0, 0, 255);
        are("of none", row(4, k -> x.conditions(0, k)), "0 0 1 " + NONE);
        are("of all", row(4, k -> x.conditions(1, k)), "8 0 40320 " + NONE);
        x.prove(1, 3, 0);
        x.ahead(0, 1);
        are("one proven, one rule", row(4, k -> x.conditions(1, k)), "8 1 20160 " + NONE);
        x.ahead(1, 0);
        are("with a bar", row(4, k -> x.conditions(1, k)), "8 1 0 0");
        promise(18, "BAD.");
        housed(1, 1600);
        is("no leave", x.conditions(0, 0), BAD);
        x.leave(0, 0, 0, 0, 255);
        bad("leave", wrong -> x.conditions(wrong, 0), -1, 1, 10);
        bad("what", wrong -> x.conditions(0, wrong), -1, 4);
    }

    private void row() {
        promise(19, "CONDITION i of the first of its ROWS (by numbers);");
        housed(1, 1600);
        x.leave(0, 0, 0, 0, 255);
        x.leave(0, 0, 0, 0, 0b10100010);
        are("without rules", row(8, k -> x.row(0, k)), "0 1 2 3 4 5 6 7");
        are("of three", row(3, k -> x.row(1, k)), "1 5 7");
        x.ahead(7, 0);
        are("all but 0 and 7 may come first", row(8, k -> x.row(0, k)), "1 2 3 4 5 6 7 0");
        x.ahead(3, 1);
        x.ahead(1, 7);
        are("the least one each time", row(8, k -> x.row(0, k)), "2 3 1 4 5 6 7 0");
        promise(19, "NONE: there are not so many, or none.");
        housed(1, 1600);
        x.leave(0, 0, 0, 0, 0);
        x.leave(0, 0, 0, 0, 0b11);
        x.leave(0, 0, 0, 0, 255);
        is("of none", x.row(0, 0), NONE);
        is("the last", x.row(1, 1), 1);
        is("behind it", x.row(1, 2), NONE);
        is("the last of all", x.row(2, 7), 7);
        is("behind that", x.row(2, 8), NONE);
        for (int wrong : new int[] {-1, 32, LEAST, MOST}) {
            is("i " + wrong, x.row(2, wrong), NONE);
        }
        x.ahead(6, 7);
        x.ahead(7, 6);
        is("no rows, though 0 could come first", x.row(2, 0), NONE);
        is("rows of another one", x.row(1, 0), 0);
        promise(19, "BAD: LEAVE.");
        housed(1, 1600);
        is("no leave", x.row(0, 0), BAD);
        x.leave(0, 0, 0, 0, 255);
        bad("leave", wrong -> x.row(wrong, 0), -1, 1, 10);
        bad("leave and i", wrong -> x.row(wrong, wrong), -1, 1, 10);
    }

    private void work() {
        promise(20, "A WORK: its number.");
        housed(1, 1600);
        is("first", x.work(0, 0, 0), 0);
        is("second, alike", x.work(0, 0, 0), 1);
        promise(20, "BAD: PART, work, day;");
        x.house();
        is("no part", x.work(0, 0, 0), BAD);
        x.part(0, 0, 1600, 0);
        bad("part", wrong -> x.work(wrong, 0, 0), -1, 1);
        bad("work", wrong -> x.work(0, wrong, 0), -1, 4);
        bad("day", wrong -> x.work(0, 0, wrong), -1, 100000);
        is("count(7)", x.count(7), 0);
        promise(20, "FULL: 20.");
        housed(1, 1600);
        for (int k = 0; k < 20; k++) {
            is("work", x.work(0, 3, LAST_DAY), k);
        }
        is("a 21st", x.work(0, 3, LAST_DAY), FULL);
        is("count(7), full", x.count(7), 20);
    }

    private void judged() {
        promise(21, "A WORK JUDGED (0 to 5; what = 0), whether PUT BACK is due (1: 1, 0).");
        needing();
        is("free", x.judged(x.work(0, 0, 50), 0), 0);
        is("without", judgedOn(50), 5);
        x.leave(0, 1, 60, 70, 1);
        is("early", judgedOn(50), 4);
        is("put back", x.judged(1, 1), 1);
        x.leave(0, 1, 40, 49, 1);
        is("past", judgedOn(50), 3);
        is("not put back", x.judged(1, 1), 0);
        x.leave(0, 1, 50, 50, 1);
        is("unmet", judgedOn(50), 2);
        x.prove(2, 0, 50);
        is("lawful", judgedOn(50), 1);
        promise(21, "BAD.");
        housed(1, 1600);
        is("no work", x.judged(0, 0), BAD);
        x.work(0, 0, 0);
        bad("work", wrong -> x.judged(wrong, 0), -1, 1, 20);
        bad("what", wrong -> x.judged(0, wrong), -1, 2);
    }
}
