/** Promises 30 to 35: day, kind, as, ask, trace, count. */
public final class AsksTest {
    private static final Due due = new Due();
    private static final int BAD = GradedHouses.BAD, NONE = GradedHouses.NONE;

    public static void main(String[] args) {
        day();
        kind();
        as();
        ask();
        askRefused();
        count();
        due.end();
    }

    private static void day() {
        GradedHouses x = new GradedHouses();
        due.is("0 at first", x.day(99999), 0);
        due.is("day -1", x.day(-1), BAD);
        due.is("day", x.day(100000), BAD);
        due.is("what it was", x.day(5), 99999);
        due.is("what it was then", x.day(0), 5);
    }

    /** Parts of 1600, 1601, 1670, 1671 and 1701, in a house of a grade from day 0 on. */
    private static GradedHouses housed(int grade) {
        GradedHouses x = new GradedHouses();
        x.house();
        x.list(0, grade, 0, 0);
        x.part(0, 2, 1600, 101);
        x.part(0, 2, 1601, 101);
        x.part(0, 2, 1670, 101);
        x.part(0, 4, 1671, 101);
        x.part(0, 4, 1701, 101);
        return x;
    }

    private static String kinds(GradedHouses x) {
        StringBuilder row = new StringBuilder();
        for (int part = 0; part < 5; part++) {
            row.append(x.kind(part));
        }
        return row.toString();
    }

    private static void kind() {
        due.are("no grade", kinds(housed(0)), "00033");
        due.are("grade 1", kinds(housed(1)), "20033");
        due.are("grade 2", kinds(housed(2)), "10033");
        due.are("grade 3", kinds(housed(3)), "10033");
        GradedHouses x = housed(3);
        x.day(364);
        due.are("last day of a year", kinds(x), "10033");
        x.day(365);
        due.are("a year on", kinds(x), "11003");
        x.list(0, 1, 300, 366);
        due.are("not known yet", kinds(x), "11003");
        x.day(366);
        due.are("known", kinds(x), "22003");
        due.is("part 5", x.kind(5), BAD);
        due.is("part -1", x.kind(-1), BAD);
    }

    private static String isAs(GradedHouses x, int part) {
        StringBuilder row = new StringBuilder();
        for (int kind = 0; kind < 4; kind++) {
            int year = x.as(part, kind);
            row.append(kind == 0 ? "" : " ").append(year == Due.KIND ? "-" : String.valueOf(year));
        }
        return row.toString();
    }

    private static void as() {
        GradedHouses x = housed(1);
        due.are("PRIME", isAs(x, 0), "1600 1600 1600 -");
        due.are("PART", isAs(x, 1), "1601 - - -");
        due.are("YOUNG", isAs(x, 4), "1701 - - 1701");
        due.are("KEPT", isAs(housed(2), 0), "1600 1600 - -");
        due.is("part 5", x.as(5, 0), BAD);
        due.is("part -1", x.as(-1, 0), BAD);
        due.is("kind 4", x.as(0, 4), BAD);
        due.is("kind -1", x.as(0, -1), BAD);
    }

    private static String bodies(GradedHouses x) {
        StringBuilder row = new StringBuilder();
        for (int i = 0; i < 17 && x.trace(i) != NONE; i++) {
            row.append(i == 0 ? "" : " ").append(x.trace(i));
        }
        return row.toString();
    }

    private static void asked(GradedHouses x, int part, int what, int answer, String bodies) {
        due.is("ask(" + part + ", " + what + ")", x.ask(part, what), answer);
        due.are("trace of ask(" + part + ", " + what + ")", bodies(x), bodies);
    }

    private static void ask() {
        GradedHouses x = housed(1);
        asked(x, 1, 0, 101, "10");
        asked(x, 1, 1, 2, "20");
        asked(x, 0, 0, 402, "12 11 10");
        asked(x, 0, 1, 414, "22 21 20 12 11 10");
        asked(x, 4, 0, 50, "13 10");
        asked(x, 4, 1, 54, "23 20 13 10");
        x = housed(3);
        asked(x, 0, 0, 201, "11 10");
        asked(x, 0, 1, 32, "21 20");
        x.list(0, 2, 365, 365);
        x.day(365);
        asked(x, 0, 0, 202, "11 10");
        asked(x, 0, 1, 22, "21 20");
    }

    private static void askRefused() {
        GradedHouses x = housed(1);
        due.is("no trace yet", x.trace(0), NONE);
        x.ask(0, 0);
        due.is("part 5", x.ask(5, 0), BAD);
        due.is("part -1", x.ask(-1, 0), BAD);
        due.is("what 2", x.ask(0, 2), BAD);
        due.is("what -1", x.ask(0, -1), BAD);
        due.are("the trace stays", bodies(x), "12 11 10");
        due.is("trace -1", x.trace(-1), NONE);
        due.is("trace 3", x.trace(3), NONE);
        due.is("trace 16", x.trace(16), NONE);
        due.is("trace, greatest", x.trace(Integer.MAX_VALUE), NONE);
    }

    private static void count() {
        GradedHouses x = housed(1);
        x.house();
        x.list(1, 2, 0, 0);
        x.part(1, 0, 1500, 0);
        x.part(1, 0, 1500, 0);
        x.sheet(3, 0, 0);
        Due.read(x, "act 0 grade 1 any paint needs;");
        x.leave(0, 0, 0, 0, 0);
        x.work(0, 0, 0);
        x.work(0, 0, 0);
        x.enter(0, 0, 0);
        x.enter(0, 0, 0);
        x.enter(0, 0, 0);
        Due.feed(x, "acts");
        int[] many = {1, 2, 7, 3, 1, 1, 1, 2, 3, 4};
        for (int what = 0; what < many.length; what++) {
            due.is("count(" + what + ")", x.count(what), many[what]);
        }
        x.day(365);
        due.is("KEPT a year on", x.count(3), 4);
        due.is("PRIME a year on", x.count(4), 2);
        due.is("count(-1)", x.count(-1), BAD);
        due.is("count(10)", x.count(10), BAD);
    }
}
