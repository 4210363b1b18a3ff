/** HOUSES, THE LIST and PARTS: what Terms say of them, and promises 6 to 10. */
final class HouseBoundaries extends Boundaries {
    HouseBoundaries(Sentences document, Due due) {
        super(document, due);
    }

    @Override
    void all() {
        sixHouses();
        thirtyRows();
        grades();
        fromADayOn();
        enteredThatDayOrLater();
        asKnown();
        theLatestDay();
        theOneToldLast();
        noGradeWithout();
        sixteenParts();
        sorts();
        years();
        worths();
        theHouseOfAPart();
        numbersOfHouses();
        rowsOfTheList();
        gradeRefused();
        numbersOfParts();
        toldOfAPart();
        toldRefused();
    }

    private void sixHouses() {
        terms("HOUSES 0 .. 5 (6 at most).");
        are("seven", row(7, k -> x.house()), "0 1 2 3 4 5 " + FULL);
        is("count(1)", x.count(1), 6);
        is("list of 5", x.list(5, 1, 0, 0), 1);
        is("list of 6", x.list(6, 1, 0, 0), BAD);
        is("list of -1", x.list(-1, 1, 0, 0), BAD);
    }

    private void thirtyRows() {
        terms("THE LIST, as it is told (30 at most):");
        x.house();
        x.house();
        for (int k = 1; k <= 30; k++) {
            is("row " + k, x.list(k % 2, 1, 0, 0), k);
        }
        is("a 31st", x.list(0, 2, 0, 0), FULL);
        is("of another house, too", x.list(1, 2, 0, 0), FULL);
        is("none came", x.grade(0, 0, 0), 1);
    }

    private void grades() {
        terms("a HOUSE has a GRADE (0: none; 1 the highest, to 3)");
        x.house();
        is("-1", x.list(0, -1, 0, 0), BAD);
        is("4", x.list(0, 4, 0, 0), BAD);
        for (int grade = 0; grade <= 3; grade++) {
            is("list", x.list(0, grade, 0, 0), grade + 1);
            is("grade", x.grade(0, 0, 0), grade);
        }
        x.part(0, 0, 1600, 0);
        x.list(0, 1, 0, 0);
        is("1 is the highest", x.kind(0), 2);
        x.list(0, 0, 0, 0);
        is("0: none", x.kind(0), 0);
    }

    private void fromADayOn() {
        terms("from a day on,");
        x.house();
        x.list(0, 2, 500, 500);
        x.list(0, 3, LAST_DAY, LAST_DAY);
        is("a day ahead", x.grade(0, 499, LAST_DAY), 0);
        is("that day", x.grade(0, 500, LAST_DAY), 2);
        is("up to the next", x.grade(0, 99998, LAST_DAY), 2);
        is("the last day", x.grade(0, LAST_DAY, LAST_DAY), 3);
    }

    private void enteredThatDayOrLater() {
        terms("ENTERED on a day (that day or later).");
        x.house();
        is("a day ahead", x.list(0, 1, 500, 499), BAD);
        is("that day", x.list(0, 1, 500, 500), 1);
        is("a day later", x.list(0, 1, 500, 501), 2);
        is("the last day", x.list(0, 1, LAST_DAY, LAST_DAY), 3);
        is("0 is ahead of 1", x.list(0, 1, 1, 0), BAD);
    }

    private void asKnown() {
        terms("GRADE of a HOUSE on a day, AS KNOWN on another one: of what was ENTERED by that other day");
        x.house();
        x.list(0, 1, 100, 200);
        is("a day ahead", x.grade(0, 100, 199), 0);
        is("that day", x.grade(0, 100, 200), 1);
        is("known later", x.grade(0, 150, 201), 1);
        is("known, but for later days", x.grade(0, 99, 200), 0);
        is("known ahead of the day", x.grade(0, LAST_DAY, 200), 1);
        x.list(0, 2, 100, 300);
        is("mended later, not known yet", x.grade(0, 100, 299), 1);
        is("mended", x.grade(0, 100, 300), 2);
    }

    private void theLatestDay() {
        terms("the one with the latest day no later than the day,");
        x.house();
        x.house();
        x.list(0, 3, 300, 300);
        x.list(0, 2, 200, 400);
        x.list(0, 1, 100, 500);
        x.list(1, 3, 350, 350);
        is("not by the order of telling", x.grade(0, 300, 500), 3);
        is("nor of entering", x.grade(0, LAST_DAY, LAST_DAY), 3);
        is("no later than the day", x.grade(0, 299, 500), 2);
        is("just that day", x.grade(0, 200, 500), 2);
        is("the one ahead", x.grade(0, 199, 500), 1);
        is("of what is known", x.grade(0, 299, 399), 0);
        is("of another house", x.grade(1, 349, 500), 0);
    }

    private void theOneToldLast() {
        terms("of several the one told last;");
        x.house();
        x.list(0, 3, 100, 300);
        x.list(0, 1, 100, 200);
        x.list(0, 2, 100, 250);
        is("all known", x.grade(0, 100, 300), 2);
        is("of those known", x.grade(0, 100, 200), 1);
        x.list(0, 0, 100, 100);
        is("none at all, told last", x.grade(0, 100, LAST_DAY), 0);
    }

    private void noGradeWithout() {
        terms("0 without.");
        x.house();
        x.house();
        is("no row", x.grade(0, LAST_DAY, LAST_DAY), 0);
        x.list(1, 1, 0, 0);
        is("of another house", x.grade(0, LAST_DAY, LAST_DAY), 0);
        x.list(0, 1, 5, 9);
        is("none for that day", x.grade(0, 4, LAST_DAY), 0);
        is("none known", x.grade(0, 5, 8), 0);
    }

    private void sixteenParts() {
        terms("PARTS 0 .. 15 (16 at most):");
        x.house();
        are("parts", row(16, k -> x.part(0, 0, 1700, k)), "0 1 2 3 4 5 6 7 8 9 10 11 12 13 14 15");
        is("a 17th", x.part(0, 0, 1700, 0), FULL);
        is("count(2)", x.count(2), 16);
        is("part 15", x.told(15, 3), 15);
        is("part 16", x.told(16, 3), BAD);
    }

    private void sorts() {
        terms("a SORT (0 window, 1 wall, 2 roof, 3 door, 4 floor),");
        housed(1, 1600);
        is("-1", x.part(0, -1, 1700, 0), BAD);
        is("5", x.part(0, 5, 1700, 0), BAD);
        String[] names = {"window", "wall", "roof", "door", "floor"};
        for (int sort = 0; sort < 5; sort++) {
            is("part", x.part(0, sort, 1700, 0), sort + 1);
            Due.read(x, "act " + sort + " grade 1 " + names[sort] + " paint needs;");
        }
        are("by its name", row(5, k -> x.needs(k + 1, 3, 99, 1)), "0 1 2 3 4");
    }

    private void years() {
        terms("the year it was made (1000 to 1999),");
        x.house();
        is("999", x.part(0, 0, 999, 0), BAD);
        is("2000", x.part(0, 0, 2000, 0), BAD);
        is("least", x.part(0, 0, LEAST, 0), BAD);
        is("most", x.part(0, 0, MOST, 0), BAD);
        is("1000", x.part(0, 0, 1000, 0), 0);
        is("1999", x.part(0, 0, 1999, 0), 1);
        is("age of the first", x.told(0, 4), 700);
        is("age of the last", x.told(1, 4), -299);
    }

    private void worths() {
        terms("a worth (0 to 10000).");
        x.house();
        is("-1", x.part(0, 0, 1700, -1), BAD);
        is("10001", x.part(0, 0, 1700, 10001), BAD);
        is("0", x.part(0, 0, 1700, 0), 0);
        is("10000", x.part(0, 0, 1700, 10000), 1);
        is("worth", x.told(1, 3), 10000);
    }

    private void theHouseOfAPart() {
        terms("a HOUSE, a SORT");
        is("no house", x.part(0, 0, 1700, 0), BAD);
        x.house();
        x.house();
        is("-1", x.part(-1, 0, 1700, 0), BAD);
        is("2", x.part(2, 0, 1700, 0), BAD);
        is("1", x.part(1, 0, 1700, 0), 0);
        x.list(0, 2, 0, 0);
        is("another house's grade", x.told(0, 5), 0);
        x.list(1, 3, 0, 0);
        is("its house's grade", x.told(0, 5), 3);
    }

    private void numbersOfHouses() {
        promise(6, "A HOUSE: its number.");
        is("first", x.house(), 0);
        is("second", x.house(), 1);
        promise(6, "FULL: 6.");
        for (int k = 0; k < 6; k++) {
            is("house", x.house(), k);
        }
        is("a seventh", x.house(), FULL);
        is("again", x.house(), FULL);
        is("count(1)", x.count(1), 6);
    }

    private void rowsOfTheList() {
        promise(7, "THE LIST: how many rows it has.");
        x.house();
        is("one", x.list(0, 0, 0, 0), 1);
        is("two alike", x.list(0, 0, 0, 0), 2);
        promise(7, "BAD: HOUSE, GRADE (0 to 3), days;");
        x.house();
        bad("house", wrong -> x.list(wrong, 1, 0, 0), -1, 1, 6);
        bad("grade", wrong -> x.list(0, wrong, 0, 0), -1, 4);
        bad("day", wrong -> x.list(0, 1, wrong, LAST_DAY), -1, 100000);
        bad("entered", wrong -> x.list(0, 1, 0, wrong), -1, 100000);
        bad("both", wrong -> x.list(0, 1, wrong, wrong), -1, 100000);
        is("entered ahead", x.list(0, 1, LAST_DAY, 99998), BAD);
        is("none came", x.list(0, 1, 0, 0), 1);
        promise(7, "FULL: 30.");
        x.house();
        for (int k = 1; k <= 30; k++) {
            is("row", x.list(0, 1, k, k), k);
        }
        is("a 31st", x.list(0, 2, 31, 31), FULL);
        is("none came then", x.grade(0, 31, 31), 1);
    }

    private void gradeRefused() {
        promise(8, "GRADE of a HOUSE on a day, AS KNOWN on another one.");
        x.house();
        x.list(0, 3, 0, LAST_DAY);
        is("on the first, known on the last day", x.grade(0, 0, LAST_DAY), 3);
        is("a day ahead", x.grade(0, LAST_DAY, 99998), 0);
        promise(8, "BAD.");
        x.house();
        bad("house", wrong -> x.grade(wrong, 0, 0), -1, 1);
        bad("day", wrong -> x.grade(0, wrong, 0), -1, 100000);
        bad("known", wrong -> x.grade(0, 0, wrong), -1, 100000);
    }

    private void numbersOfParts() {
        promise(9, "A PART: its number.");
        x.house();
        is("first", x.part(0, 0, 1700, 0), 0);
        is("second", x.part(0, 0, 1700, 0), 1);
        promise(9, "BAD: HOUSE, SORT, year, worth;");
        x.house();
        bad("house", wrong -> x.part(wrong, 0, 1700, 0), -1, 1);
        bad("sort", wrong -> x.part(0, wrong, 1700, 0), -1, 5);
        bad("year", wrong -> x.part(0, 0, wrong, 0), 0, 999, 2000);
        bad("worth", wrong -> x.part(0, 0, 1700, wrong), -1, 10001);
        is("count(2)", x.count(2), 0);
        promise(9, "FULL: 16.");
        x.house();
        x.house();
        for (int k = 0; k < 16; k++) {
            is("part", x.part(k % 2, 0, 1700, 0), k);
        }
        is("a 17th", x.part(1, 0, 1700, 0), FULL);
        is("count(2), full", x.count(2), 16);
    }

    private void toldOfAPart() {
        promise(10, "Of a PART: 0 HOUSE, 1 SORT, 2 year, 3 worth, 4 its age on THE DAY, 5 GRADE of its HOUSE on THE DAY.");
        x.house();
        x.house();
        x.list(1, 2, 365, 400);
        x.list(1, 1, 500, 500);
        x.part(1, 4, 1701, 77);
        are("on day 0", row(6, k -> x.told(0, k)), "1 4 1701 77 -1 0");
        x.day(364);
        are("on day 364", row(6, k -> x.told(0, k)), "1 4 1701 77 -1 0");
        x.day(399);
        are("on day 399, not known yet", row(6, k -> x.told(0, k)), "1 4 1701 77 0 0");
        x.day(400);
        are("on day 400", row(6, k -> x.told(0, k)), "1 4 1701 77 0 2");
        x.day(LAST_DAY);
        are("on the last day", row(6, k -> x.told(0, k)), "1 4 1701 77 272 1");
    }

    private void toldRefused() {
        promise(10, "BAD.");
        x.house();
        is("no part", x.told(0, 0), BAD);
        x.part(0, 0, 1700, 0);
        bad("part", wrong -> x.told(wrong, 0), -1, 1, 16);
        bad("what", wrong -> x.told(0, wrong), -1, 6);
    }
}
