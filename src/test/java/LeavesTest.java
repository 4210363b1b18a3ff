/** Promises 15 to 21: leave, prove, ahead, conditions, row, work, judged. */
public final class LeavesTest {
    private static final Due due = new Due();
    private static final int BAD = GradedHouses.BAD, FULL = GradedHouses.FULL;
    private static final int NONE = GradedHouses.NONE, STATE = GradedHouses.STATE;

    public static void main(String[] args) {
        leave();
        prove();
        ahead();
        orders();
        bars();
        work();
        judged();
        judgedByTheBestLeave();
        putBack();
        due.end();
    }

    private static GradedHouses withPart() {
        GradedHouses x = new GradedHouses();
        x.house();
        x.part(0, 0, 1600, 5);
        return x;
    }

    private static void leave() {
        GradedHouses x = withPart();
        due.is("part", x.leave(1, 0, 0, 0, 0), BAD);
        due.is("part -1", x.leave(-1, 0, 0, 0, 0), BAD);
        due.is("work", x.leave(0, 4, 0, 0, 0), BAD);
        due.is("work -1", x.leave(0, -1, 0, 0, 0), BAD);
        due.is("from -1", x.leave(0, 0, -1, 0, 0), BAD);
        due.is("from", x.leave(0, 0, 100000, 100000, 0), BAD);
        due.is("to", x.leave(0, 0, 0, 100000, 0), BAD);
        due.is("to below from", x.leave(0, 0, 9, 8, 0), BAD);
        due.is("conditions", x.leave(0, 0, 0, 0, 256), BAD);
        due.is("conditions -1", x.leave(0, 0, 0, 0, -1), BAD);
        for (int k = 0; k < 10; k++) {
            due.is("leave", x.leave(0, k % 4, k, 99999, 255 - k), k);
        }
        due.is("an eleventh", x.leave(0, 0, 0, 0, 0), FULL);
        due.is("BAD ahead of FULL", x.leave(0, 0, 9, 8, 0), BAD);
        due.is("count", x.count(6), 10);
    }

    private static void prove() {
        GradedHouses x = withPart();
        due.is("no leave", x.prove(0, 0, 0), BAD);
        x.leave(0, 0, 0, 9, 129);
        x.leave(0, 0, 0, 9, 129);
        due.is("leave 2", x.prove(2, 0, 0), BAD);
        due.is("leave -1", x.prove(-1, 0, 0), BAD);
        due.is("condition 8", x.prove(0, 8, 0), BAD);
        due.is("condition -1", x.prove(0, -1, 0), BAD);
        due.is("day -1", x.prove(0, 0, -1), BAD);
        due.is("day", x.prove(0, 0, 100000), BAD);
        due.is("BAD ahead of STATE", x.prove(0, 1, 100000), BAD);
        due.is("none of it", x.prove(0, 1, 5), STATE);
        due.is("proven", x.prove(0, 7, 99999), 1);
        due.is("once", x.prove(0, 7, 5), STATE);
        due.is("of another leave", x.prove(1, 7, 5), 1);
        due.is("how many", x.conditions(0, 1), 1);
        due.is("another one", x.prove(0, 0, 0), 1);
        due.is("all", x.conditions(0, 1), 2);
    }

    private static void ahead() {
        GradedHouses x = new GradedHouses();
        due.is("alike", x.ahead(3, 3), BAD);
        due.is("a", x.ahead(8, 0), BAD);
        due.is("a -1", x.ahead(-1, 0), BAD);
        due.is("b", x.ahead(0, 8), BAD);
        due.is("b -1", x.ahead(0, -1), BAD);
        for (int k = 1; k <= 30; k++) {
            due.is("rule, told again too", x.ahead(0, k % 7 + 1), k);
        }
        due.is("a 31st", x.ahead(7, 0), FULL);
        due.is("BAD ahead of FULL", x.ahead(0, 0), BAD);
        x.house();
        x.part(0, 0, 1600, 5);
        x.leave(0, 0, 0, 0, 129);
        due.is("the 31st did not come", x.conditions(0, 2), 1);
    }

    private static String rowOf(GradedHouses x, int leave) {
        StringBuilder row = new StringBuilder();
        for (int i = 0; i < 9 && x.row(leave, i) != NONE; i++) {
            row.append(x.row(leave, i));
        }
        return row.toString();
    }

    private static void orders() {
        GradedHouses x = withPart();
        x.leave(0, 0, 0, 0, 255);
        x.leave(0, 0, 0, 0, 0);
        x.leave(0, 0, 0, 0, 0b10101);
        due.is("how many", x.conditions(0, 0), 8);
        due.is("how many, none", x.conditions(1, 0), 0);
        due.is("how many of some", x.conditions(2, 0), 3);
        due.is("all orders", x.conditions(0, 2), 40320);
        due.is("of none", x.conditions(1, 2), 1);
        due.is("of three", x.conditions(2, 2), 6);
        due.are("first row", rowOf(x, 0), "01234567");
        due.are("row of none", rowOf(x, 1), "");
        due.are("row of three", rowOf(x, 2), "024");
        x.ahead(4, 0);
        x.ahead(4, 0);
        due.is("half of them", x.conditions(0, 2), 20160);
        due.is("three, with one rule told twice", x.conditions(2, 2), 3);
        due.are("the first one", rowOf(x, 0), "12340567");
        due.are("of three", rowOf(x, 2), "240");
        x.ahead(0, 1);
        x.ahead(1, 2);
        due.is("a rule with one that is not there", x.conditions(2, 2), 3);
        due.are("is none here", rowOf(x, 2), "240");
        due.are("but here", rowOf(x, 0), "34012567");
        due.is("rows", x.conditions(0, 2), 1680);
        due.is("row -1", x.row(0, -1), NONE);
        due.is("row 8", x.row(0, 8), NONE);
        due.is("row, greatest", x.row(0, Integer.MAX_VALUE), NONE);
        due.is("row, no leave", x.row(3, 0), BAD);
        due.is("row, leave -1", x.row(-1, 0), BAD);
        due.is("conditions, no leave", x.conditions(3, 0), BAD);
        due.is("conditions, leave -1", x.conditions(-1, 0), BAD);
        due.is("what 4", x.conditions(0, 4), BAD);
        due.is("what -1", x.conditions(0, -1), BAD);
    }

    private static void bars() {
        GradedHouses x = withPart();
        x.leave(0, 0, 0, 0, 255);
        x.leave(0, 0, 0, 0, 0b1110);
        x.leave(0, 0, 0, 0, 0b10111);
        due.is("no bar", x.conditions(0, 3), NONE);
        x.ahead(0, 1);
        x.ahead(3, 5);
        x.ahead(5, 6);
        x.ahead(6, 3);
        x.ahead(6, 2);
        due.is("0 and 1 can go, 2 waits behind the ring", x.conditions(0, 3), 2);
        due.is("no rows", x.conditions(0, 2), 0);
        due.is("no row", x.row(0, 0), NONE);
        due.is("the ring is not in this one", x.conditions(1, 3), NONE);
        due.is("its rows", x.conditions(1, 2), 6);
        x.ahead(2, 1);
        x.ahead(1, 2);
        due.is("a ring of two", x.conditions(1, 3), 1);
        due.is("a ring of two, here too", x.conditions(2, 3), 1);
        due.is("no rows of it", x.conditions(2, 2), 0);
        x.ahead(1, 0);
        due.is("a ring with the least one", x.conditions(0, 3), 0);
    }

    private static void work() {
        GradedHouses x = withPart();
        due.is("part", x.work(1, 0, 0), BAD);
        due.is("part -1", x.work(-1, 0, 0), BAD);
        due.is("work", x.work(0, 4, 0), BAD);
        due.is("work -1", x.work(0, -1, 0), BAD);
        due.is("day", x.work(0, 0, 100000), BAD);
        due.is("day -1", x.work(0, 0, -1), BAD);
        for (int k = 0; k < 20; k++) {
            due.is("work", x.work(0, k % 4, 99999), k);
        }
        due.is("a 21st", x.work(0, 0, 0), FULL);
        due.is("BAD ahead of FULL", x.work(0, 4, 0), BAD);
        due.is("count", x.count(7), 20);
    }

    private static void judged() {
        GradedHouses x = withPart();
        x.list(0, 3, 0, 0);
        x.part(0, 0, 1690, 5);
        Due.read(x, "act 0 grade 3 any change needs;");
        x.work(0, 0, 50);
        x.work(0, 1, 50);
        due.is("no such work", x.judged(2, 0), BAD);
        due.is("work -1", x.judged(-1, 0), BAD);
        due.is("what 2", x.judged(0, 2), BAD);
        due.is("what -1", x.judged(0, -1), BAD);
        due.is("FREE", x.judged(0, 0), 0);
        due.is("FREE is not put back", x.judged(0, 1), 0);
        due.is("WITHOUT", x.judged(1, 0), 5);
        x.leave(1, 1, 0, 99999, 0);
        x.leave(0, 2, 0, 99999, 0);
        due.is("leaves of another part or work", x.judged(1, 0), 5);
        x.leave(0, 1, 51, 60, 0);
        due.is("EARLY", x.judged(1, 0), 4);
        x.leave(0, 1, 30, 49, 0);
        due.is("PAST", x.judged(1, 0), 3);
        x.leave(0, 1, 50, 50, 6);
        due.is("UNMET", x.judged(1, 0), 2);
        x.prove(4, 1, 50);
        due.is("UNMET by one", x.judged(1, 0), 2);
        x.prove(4, 2, 51);
        due.is("UNMET by a day", x.judged(1, 0), 2);
        x.leave(0, 1, 0, 99999, 8);
        x.prove(5, 3, 50);
        due.is("LAWFUL", x.judged(1, 0), 1);
        Due.read(x, "act 50 grade 3 any change free;");
        due.is("an act told later", x.judged(1, 0), 0);
        x.list(0, 2, 50, 51);
        due.is("a grade not known that day", x.judged(1, 0), 0);
    }

    private static void judgedByTheBestLeave() {
        GradedHouses x = withPart();
        x.list(0, 3, 0, 0);
        Due.read(x, "act 0 grade 3 any change needs;");
        x.work(0, 1, 50);
        x.leave(0, 1, 50, 60, 0);
        x.leave(0, 1, 40, 50, 1);
        x.leave(0, 1, 0, 49, 0);
        x.leave(0, 1, 51, 52, 0);
        due.is("LAWFUL, whatever the others are", x.judged(0, 0), 1);
        x.work(0, 1, 49);
        due.is("the last day of another one", x.judged(1, 0), 1);
        x.work(0, 1, 60);
        due.is("the last day", x.judged(2, 0), 1);
        x.work(0, 1, 61);
        due.is("PAST", x.judged(3, 0), 3);
        for (int c = 0; c < 8; c++) {
            x = withPart();
            x.list(0, 3, 0, 0);
            Due.read(x, "act 0 grade 3 any change needs;");
            x.work(0, 1, 50);
            x.leave(0, 1, 50, 50, 255);
            for (int other = 0; other < 8; other++) {
                due.is("not yet", x.judged(0, 0), 2);
                x.prove(0, other, other == c ? 51 : 50);
            }
            due.is("one a day late", x.judged(0, 0), 2);
        }
    }

    private static void putBack() {
        GradedHouses x = withPart();
        x.list(0, 3, 0, 0);
        x.list(0, 1, 36500, 36500);
        x.part(0, 0, 1601, 5);
        x.part(0, 0, 1700, 5);
        Due.read(x, "act 0 grade 3 any change needs;act 0 grade 1 any change needs;");
        x.work(2, 1, 100);
        due.is("WITHOUT", x.judged(0, 0), 5);
        due.is("put back, of any kind", x.judged(0, 1), 1);
        for (int part = 0; part < 3; part++) {
            x.leave(part, 1, 99999, 99999, 0);
        }
        due.is("EARLY, YOUNG", x.judged(0, 1), 0);
        x.work(0, 1, 100);
        due.is("EARLY, KEPT", x.judged(1, 1), 1);
        x.work(1, 1, 100);
        due.is("EARLY, a year short", x.judged(2, 0), 4);
        due.is("no PUT BACK", x.judged(2, 1), 0);
        x.day(99999);
        due.is("by its day, not THE DAY", x.judged(2, 1), 0);
        x.work(1, 1, 365);
        due.is("a hundred years old", x.judged(3, 1), 1);
        x.work(2, 1, 36500);
        due.is("EARLY, PRIME", x.judged(4, 1), 1);
        x.leave(2, 1, 0, 5, 0);
        due.is("PAST is not put back", x.judged(4, 1), 0);
    }
}
