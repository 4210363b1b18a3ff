/** Promises 11 to 14: feed, acts, fault, needs. */
public final class ActsTest {
    private static final Due due = new Due();
    private static final int BAD = GradedHouses.BAD, FULL = GradedHouses.FULL, NONE = GradedHouses.NONE;

    public static void main(String[] args) {
        feed();
        texts();
        faults();
        faultsInTheirOrder();
        tooMany();
        needs();
        due.end();
    }

    private static void feed() {
        GradedHouses x = new GradedHouses();
        due.is("n 0", x.feed(0, 0), BAD);
        due.is("n 9", x.feed(0, 9), BAD);
        due.is("n -1", x.feed(0, -1), BAD);
        due.is("one byte", x.feed(-1L, 1), 1);
        due.is("eight bytes", x.feed(Long.MIN_VALUE, 8), 9);
        due.is("count", x.count(9), 9);
        for (int k = 2; k <= 62; k++) {
            due.is("feed", x.feed(0, 8), 8 * k + 1);
        }
        due.is("four would be too many", x.feed(0, 4), FULL);
        due.is("none came", x.count(9), 497);
        due.is("three fit", x.feed(0, 3), 500);
        due.is("one more", x.feed(0, 1), FULL);
        due.is("BAD ahead of FULL", x.feed(0, 0), BAD);
        due.is("the first byte was 255", x.acts(), -1000100);
        due.is("empty then", x.count(9), 0);
        x.feed(0x6667616374203120L, 6);
        due.is("the highest of the lowest first", x.acts(), -1000106);
    }

    private static void texts() {
        GradedHouses x = new GradedHouses();
        due.is("nothing", x.acts(), 0);
        due.is("blanks", Due.read(x, " \n \n"), 0);
        due.is("one", Due.read(x, "act 0 grade 1 any paint needs;"), 1);
        due.is("without blanks", Due.read(x, "act99999grade3floor remove older999free;"), 2);
        due.is("with many", Due.read(x, "\n act  00007 \n grade 0003 wall repair older 0 needs ; \n"), 3);
        due.is("two", Due.read(x, "act 1 grade 2 door change free;\nact 1 grade 2 roof change free;"), 5);
        due.is("count", x.count(5), 5);
        due.is("no fault yet", x.fault(), 0);
        due.is("a fault", Due.read(x, "act 1 grade 2 door change free;act"), -1000134);
        due.is("none comes", x.count(5), 5);
        due.is("the tape is empty", x.count(9), 0);
        due.is("fault", x.fault(), 1);
        due.is("behind it", Due.read(x, "act 1 grade 2 window paint free;"), 6);
        due.is("the latest fault stays", x.fault(), 1);
    }

    private static void faulty(String text, int place, int number) {
        GradedHouses x = new GradedHouses();
        due.is("'" + text + "'", Due.read(x, text), -1000100 - place);
        due.is("fault of '" + text + "'", x.fault(), number);
        due.is("acts of '" + text + "'", x.count(5), 0);
    }

    private static void faults() {
        faulty("x", 0, 1);
        faulty("ACT 1", 0, 1);
        faulty("\t", 0, 1);
        faulty("5", 0, 1);
        faulty(";", 0, 1);
        faulty(" actor", 1, 1);
        faulty("ac", 0, 1);
        faulty("actz", 0, 1);
        faulty("acta", 0, 1);
        faulty("act{", 3, 1);
        faulty("act`", 3, 1);
        faulty("act 1/", 5, 1);
        faulty("act 1:", 5, 1);
        faulty("act ", 4, 1);
        faulty("act act", 4, 1);
        faulty("act -1", 4, 1);
        faulty("act 123456", 4, 1);
        faulty("act 5 5", 6, 1);
        faulty("act 5 grad 1", 6, 1);
        faulty("act 5 grade any", 12, 1);
        faulty("act 5 grade 0", 12, 2);
        faulty("act 5 grade 4", 12, 2);
        faulty("act 5 grade 99999", 12, 2);
        faulty("act 5 grade 000001", 12, 1);
        faulty("act 5 grade 1 paint", 14, 1);
        faulty("act 5 grade 1 wall any", 19, 1);
        faulty("act 5 grade 1 wall build", 19, 1);
        faulty("act 5 grade 1 wall paint;", 24, 1);
        faulty("act 5 grade 1 wall paint older needs;", 31, 1);
        faulty("act 5 grade 1 wall paint older 1000 needs;", 31, 2);
        faulty("act 5 grade 1 wall paint older 999 older 9 needs;", 35, 1);
        faulty("act 5 grade 1 wall paint needs", 30, 1);
        faulty("act 5 grade 1 wall paint needs free;", 31, 1);
        faulty("act 5 grade 1 wall paint needs;;", 31, 1);
        faulty("act 5 grade 1 wall paint needs\u00ff;", 30, 1);
        faulty("act 5 grade 1 wall paint needs\u0000;", 30, 1);
    }

    private static void faultsInTheirOrder() {
        faulty("act 5 grade 4 nowhere", 12, 2);
        faulty("act five grade 4", 4, 1);
        GradedHouses x = new GradedHouses();
        Due.read(x, "act 5 grade 4 ");
        due.is("number", x.fault(), 2);
        Due.read(x, "act 5 grade ;");
        due.is("the latest", x.fault(), 1);
    }

    private static void tooMany() {
        GradedHouses x = new GradedHouses();
        String one = "act0grade1any paint free;";
        for (int k = 1; k <= 23; k++) {
            due.is("act", Due.read(x, one), k);
        }
        due.is("a 25th in one text", Due.read(x, one + " " + one), -1000126);
        due.is("fault", x.fault(), 3);
        due.is("none came", x.count(5), 23);
        due.is("the 24th", Due.read(x, one), 24);
        due.is("the 25th", Due.read(x, "\n" + one), -1000101);
        due.is("its act alone", Due.read(x, "act"), -1000100);
        due.is("fault again", x.fault(), 3);
        due.is("a token that cannot stand there", Due.read(x, "free"), -1000100);
        due.is("is that", x.fault(), 1);
        due.is("nothing", x.acts(), 24);
        due.is("the last one counts", Due.read(x, " "), 24);
    }

    private static void needs() {
        GradedHouses x = new GradedHouses();
        x.house();
        x.list(0, 2, 0, 0);
        x.list(0, 1, 5000, 6000);
        x.part(0, 1, 1690, 5);
        x.part(0, 2, 1690, 5);
        x.part(0, 1, 1705, 5);
        due.is("no act", x.needs(0, 1, 99999, 0), 0);
        due.is("none says it", x.needs(0, 1, 99999, 1), NONE);
        Due.read(x, "act 0 grade 2 any change needs; act");
        due.is("nor does an act ahead of a fault", x.needs(0, 1, 0, 1), NONE);
        due.is("nor is leave needed", x.needs(0, 1, 0, 0), 0);
        Due.read(x, "act 20 grade 2 wall change free;");
        Due.read(x, "act 10 grade 2 any change needs;");
        Due.read(x, "act 20 grade 2 any change older 11 needs;");
        Due.read(x, "act 5500 grade 1 any change free;");
        Due.read(x, "act 10 grade 2 any repair needs; act 10 grade 2 any repair free;");
        due.is("ahead", x.needs(0, 1, 9, 1), NONE);
        due.is("that day", x.needs(0, 1, 10, 1), 1);
        due.is("needs", x.needs(0, 1, 10, 0), 1);
        due.is("the latest day, told first", x.needs(0, 1, 20, 1), 0);
        due.is("free", x.needs(0, 1, 20, 0), 0);
        due.is("another sort", x.needs(1, 1, 364, 1), 1);
        due.is("old enough", x.needs(1, 1, 365, 1), 2);
        due.is("of one day the one told last", x.needs(0, 1, 365, 1), 2);
        due.is("of one day, free", x.needs(0, 0, 365, 0), 0);
        due.is("of one day, told last", x.needs(0, 0, 365, 1), 5);
        due.is("another work", x.needs(0, 2, 365, 1), NONE);
        due.is("not made yet", x.needs(2, 1, 5 * 365 - 1, 1), NONE);
        due.is("0 years old", x.needs(2, 1, 5 * 365, 1), 0);
        due.is("the new grade is not known that day", x.needs(0, 1, 5999, 1), 2);
        due.is("now it is", x.needs(0, 1, 6000, 1), 3);
        due.is("and free", x.needs(0, 1, 6000, 0), 0);
        x.day(99999);
        due.is("THE DAY is another one", x.needs(0, 1, 10, 1), 1);
        due.is("part", x.needs(3, 1, 10, 0), BAD);
        due.is("part -1", x.needs(-1, 1, 10, 0), BAD);
        due.is("work", x.needs(0, 4, 10, 0), BAD);
        due.is("work -1", x.needs(0, -1, 10, 0), BAD);
        due.is("day", x.needs(0, 1, 100000, 0), BAD);
        due.is("day -1", x.needs(0, 1, -1, 0), BAD);
        due.is("what", x.needs(0, 1, 10, 2), BAD);
        due.is("what -1", x.needs(0, 1, 10, -1), BAD);
    }
}
