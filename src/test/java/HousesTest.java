/** Promises 6 to 10: house, list, grade, part, told. */
public final class HousesTest {
    private static final Due due = new Due();
    private static final int BAD = GradedHouses.BAD, FULL = GradedHouses.FULL;

    public static void main(String[] args) {
        house();
        list();
        grade();
        part();
        told();
        due.end();
    }

    private static void house() {
        GradedHouses x = new GradedHouses();
        for (int k = 0; k < 6; k++) {
            due.is("house", x.house(), k);
        }
        due.is("a seventh", x.house(), FULL);
        due.is("count", x.count(1), 6);
    }

    private static void list() {
        GradedHouses x = new GradedHouses();
        due.is("no house", x.list(0, 1, 0, 0), BAD);
        x.house();
        due.is("house -1", x.list(-1, 1, 0, 0), BAD);
        due.is("house 1", x.list(1, 1, 0, 0), BAD);
        due.is("grade -1", x.list(0, -1, 0, 0), BAD);
        due.is("grade 4", x.list(0, 4, 0, 0), BAD);
        due.is("day -1", x.list(0, 1, -1, 0), BAD);
        due.is("day 100000", x.list(0, 1, 100000, 100000), BAD);
        due.is("entered 100000", x.list(0, 1, 0, 100000), BAD);
        due.is("entered ahead of the day", x.list(0, 1, 7, 6), BAD);
        for (int k = 1; k <= 30; k++) {
            due.is("row", x.list(0, k % 4, 99999, 99999), k);
        }
        due.is("a 31st", x.list(0, 1, 0, 0), FULL);
        due.is("BAD ahead of FULL", x.list(0, 4, 0, 0), BAD);
        due.is("the 31st did not come", x.grade(0, 5, 99999), 0);
        due.is("the 30th did", x.grade(0, 99999, 99999), 2);
    }

    private static void grade() {
        GradedHouses x = new GradedHouses();
        x.house();
        x.house();
        x.list(0, 3, 100, 200);
        x.list(0, 1, 50, 60);
        x.list(0, 2, 100, 150);
        x.list(1, 3, 0, 0);
        due.is("ahead of all", x.grade(0, 49, 99999), 0);
        due.is("not known yet", x.grade(0, 50, 59), 0);
        due.is("known", x.grade(0, 50, 60), 1);
        due.is("still", x.grade(0, 99, 99999), 1);
        due.is("the later one is unknown", x.grade(0, 100, 149), 1);
        due.is("known later", x.grade(0, 100, 150), 2);
        due.is("one day: the one told last, not the one entered last", x.grade(0, 100, 200), 2);
        due.is("the latest day, though told earlier", x.grade(0, 99999, 99999), 2);
        due.is("another house", x.grade(1, 99999, 0), 3);
        x.list(0, 0, 120, 120);
        due.is("taken off", x.grade(0, 120, 120), 0);
        due.is("as known ahead", x.grade(0, 120, 119), 1);
        due.is("house 2", x.grade(2, 0, 0), BAD);
        due.is("house -1", x.grade(-1, 0, 0), BAD);
        due.is("day -1", x.grade(0, -1, 0), BAD);
        due.is("day 100000", x.grade(0, 100000, 0), BAD);
        due.is("known -1", x.grade(0, 0, -1), BAD);
        due.is("known 100000", x.grade(0, 0, 100000), BAD);
    }

    private static void part() {
        GradedHouses x = new GradedHouses();
        due.is("no house", x.part(0, 0, 1700, 0), BAD);
        x.house();
        due.is("house 1", x.part(1, 0, 1700, 0), BAD);
        due.is("sort -1", x.part(0, -1, 1700, 0), BAD);
        due.is("sort 5", x.part(0, 5, 1700, 0), BAD);
        due.is("year 999", x.part(0, 0, 999, 0), BAD);
        due.is("year 2000", x.part(0, 0, 2000, 0), BAD);
        due.is("worth -1", x.part(0, 0, 1700, -1), BAD);
        due.is("worth 10001", x.part(0, 0, 1700, 10001), BAD);
        due.is("least", x.part(0, 0, 1000, 0), 0);
        due.is("greatest", x.part(0, 4, 1999, 10000), 1);
        for (int k = 2; k < 16; k++) {
            due.is("part", x.part(0, 1, 1700, k), k);
        }
        due.is("a 17th", x.part(0, 0, 1700, 0), FULL);
        due.is("BAD ahead of FULL", x.part(0, 0, 999, 0), BAD);
        due.is("count", x.count(2), 16);
    }

    private static void told() {
        GradedHouses x = new GradedHouses();
        x.house();
        x.house();
        x.list(1, 2, 1000, 1200);
        x.part(1, 3, 1702, 44);
        due.is("house", x.told(0, 0), 1);
        due.is("sort", x.told(0, 1), 3);
        due.is("year", x.told(0, 2), 1702);
        due.is("worth", x.told(0, 3), 44);
        due.is("age, not made yet", x.told(0, 4), -2);
        due.is("grade", x.told(0, 5), 0);
        x.day(1199);
        due.is("grade, not known yet", x.told(0, 5), 0);
        x.day(1200);
        due.is("grade as known that day", x.told(0, 5), 2);
        x.day(364 + 2 * 365);
        due.is("age, last day of a year", x.told(0, 4), 0);
        x.day(3 * 365);
        due.is("age, first day of a year", x.told(0, 4), 1);
        x.day(99999);
        due.is("age on the last day", x.told(0, 4), 271);
        due.is("what -1", x.told(0, -1), BAD);
        due.is("what 6", x.told(0, 6), BAD);
        due.is("part 1", x.told(1, 0), BAD);
        due.is("part -1", x.told(-1, 0), BAD);
    }
}
