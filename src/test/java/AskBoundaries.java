/** THE DAY, KINDS and ASKS: what Terms say of them, and promises 30 to 35. */
final class AskBoundaries extends Boundaries {
    AskBoundaries(Sentences document, Due due) {
        super(document, due);
    }

    @Override
    void all() {
        theDay();
        kept();
        prime();
        young();
        theFirstThatFits();
        theTrace();
        size();
        mark();
        whichBodyBegins();
        age();
        day();
        kind();
        as();
        ask();
        trace();
        count();
    }

    /** What an ask answers, and THE TRACE behind it: "answer: body body". */
    private String asked(int part, int what) {
        StringBuilder all = new StringBuilder().append(x.ask(part, what)).append(':');
        for (int i = 0; i < 17 && x.trace(i) != NONE; i++) {
            all.append(' ').append(x.trace(i));
        }
        return all.toString();
    }

    private void theDay() {
        terms("KINDS on THE DAY (0 at first), AS KNOWN that day: 0 PART;");
        is("0 at first", x.day(0), 0);
        x.house();
        x.list(0, 2, 100, 200);
        x.part(0, 0, 1600, 0);
        is("no grade yet", x.kind(0), 0);
        x.day(199);
        is("not known yet", x.kind(0), 0);
        x.day(200);
        is("known", x.kind(0), 1);
        x.list(0, 0, 100, 300);
        is("mended later", x.kind(0), 1);
        x.day(300);
        is("mended", x.kind(0), 0);
        x.day(200);
        is("as it was known", x.kind(0), 1);
    }

    private void kept() {
        terms("1 KEPT, a PART: its HOUSE has a GRADE, and it is 100 years old or more;");
        housed(3, 1600);
        x.part(0, 0, 1601, 0);
        x.house();
        x.part(1, 0, 1600, 0);
        is("100 years", x.kind(0), 1);
        is("99 years", x.kind(1), 0);
        is("no grade", x.kind(2), 0);
        x.day(364);
        is("99 years still", x.kind(1), 0);
        x.day(365);
        is("100 years then", x.kind(1), 1);
        x.list(1, 2, 365, 365);
        is("a grade", x.kind(2), 1);
        x.list(1, 0, 365, 365);
        is("no grade again", x.kind(2), 0);
    }

    private void prime() {
        terms("2 PRIME, a KEPT one: GRADE 1;");
        housed(1, 1600);
        x.part(0, 0, 1601, 0);
        x.part(0, 0, 1690, 0);
        is("100 years", x.kind(0), 2);
        is("99 years, GRADE 1", x.kind(1), 0);
        is("10 years, GRADE 1", x.kind(2), 3);
        x.list(0, 2, 0, 0);
        is("GRADE 2", x.kind(0), 1);
        x.list(0, 3, 0, 0);
        is("GRADE 3", x.kind(0), 1);
    }

    private void young() {
        terms("3 YOUNG, a PART: less than 30 years old (made in a later year, too).");
        x.house();
        x.part(0, 0, 1670, 0);
        x.part(0, 0, 1671, 0);
        x.part(0, 0, 1700, 0);
        x.part(0, 0, 1701, 0);
        x.part(0, 0, 1999, 0);
        are("30, 29, 0, -1, -299 years", row(5, k -> x.kind(k)), "0 3 3 3 3");
        x.day(365);
        are("a year on", row(5, k -> x.kind(k)), "0 0 3 3 3");
        x.day(LAST_DAY);
        are("on the last day", row(5, k -> x.kind(k)), "0 0 0 0 3");
    }

    private void theFirstThatFits() {
        terms("It is told as the first that fits of PRIME, KEPT, YOUNG, PART: by this it is asked.");
        housed(1, 1600);
        x.part(0, 0, 1690, 100);
        x.part(0, 0, 1650, 100);
        are("kinds", row(3, k -> x.kind(k)), "2 3 0");
        are("PRIME, not KEPT", asked(0, 0), "400: 12 11 10");
        are("YOUNG, not PART", asked(1, 0), "50: 13 10");
        are("PART", asked(2, 0), "100: 10");
        x.list(0, 2, 0, 0);
        are("KEPT, not PART", asked(0, 0), "200: 11 10");
    }

    private void theTrace() {
        terms("ASKS of PARTS, by BODIES, each of which leaves its number in THE TRACE as it begins (the first 16):");
        housed(1, 1600);
        is("empty at first", x.trace(0), NONE);
        are("in the order in which they begin", asked(0, 1), "410: 22 21 20 12 11 10");
        is("trace(5)", x.trace(5), 10);
        for (int i : new int[] {6, 15, 16, 17, -1, LEAST, MOST}) {
            is("trace(" + i + ")", x.trace(i), NONE);
        }
        for (int k = 0; k < 20; k++) {
            x.ask(0, 1);
        }
        are("no more than those of the latest ask", asked(0, 1), "410: 22 21 20 12 11 10");
    }

    /** Worths 0, 1, 10000 of a part of 1600, asked what. */
    private String ofWorths(int grade, int year, int what) {
        StringBuilder all = new StringBuilder();
        for (int worth : new int[] {0, 1, 10000}) {
            anew();
            x.house();
            x.list(0, grade, 0, 0);
            x.part(0, 4, year, worth);
            all.append(all.length() == 0 ? "" : " ").append(x.ask(0, what));
        }
        return all.toString();
    }

    private void size() {
        terms("0 SIZE: 10 lent to all PARTS: worth.");
        are("PART", ofWorths(0, 1650, 0), "0 1 10000");
        terms("11 of KEPT ones: what 10 gives, and its age.");
        are("KEPT", ofWorths(2, 1600, 0), "100 101 10100");
        are("KEPT, the oldest", ofWorths(2, 1000, 0), "700 701 10700");
        terms("12 of PRIME ones: what 11 gives, twice.");
        are("PRIME", ofWorths(1, 1600, 0), "200 202 20200");
        terms("13 of YOUNG ones: what 10 gives, by 2.");
        are("YOUNG", ofWorths(1, 1999, 0), "0 0 5000");
    }

    private void mark() {
        terms("1 MARK: 20 lent to all PARTS: the SORT.");
        are("PART", ofWorths(0, 1650, 1), "4 4 4");
        terms("21 of KEPT ones: what 20 gives, and 10 times the GRADE.");
        are("KEPT, GRADE 2", ofWorths(2, 1600, 1), "24 24 24");
        are("KEPT, GRADE 3", ofWorths(3, 1600, 1), "34 34 34");
        terms("22 of PRIME ones: what 21 gives, and SIZE.");
        are("PRIME", ofWorths(1, 1600, 1), "214 216 20214");
        terms("23 of YOUNG ones: what 20 gives, and SIZE.");
        are("YOUNG", ofWorths(1, 1999, 1), "4 4 5004");
    }

    private void whichBodyBegins() {
        terms("(Of an ask the BODY told for the KIND begins, else that of the nearest KIND that it is, too, else the one that is lent; SIZE within another one is asked of the same PART anew.");
        housed(1, 1600);
        x.part(0, 3, 1700, 9);
        x.part(0, 3, 1650, 9);
        are("PRIME, SIZE", asked(0, 0), "400: 12 11 10");
        are("PRIME, MARK", asked(0, 1), "410: 22 21 20 12 11 10");
        are("YOUNG, SIZE", asked(1, 0), "4: 13 10");
        are("YOUNG, MARK", asked(1, 1), "7: 23 20 13 10");
        are("PART, SIZE", asked(2, 0), "9: 10");
        are("PART, MARK", asked(2, 1), "3: 20");
        x.list(0, 3, 0, 0);
        are("KEPT, SIZE", asked(0, 0), "200: 11 10");
        are("KEPT, MARK", asked(0, 1), "30: 21 20");
    }

    private void age() {
        terms("Age on THE DAY: its year less the year it was made.)");
        housed(2, 1600);
        is("day 0", x.ask(0, 0), 200);
        x.day(364);
        is("day 364", x.ask(0, 0), 200);
        x.day(365);
        is("day 365", x.ask(0, 0), 201);
        x.day(LAST_DAY);
        is("the last day", x.ask(0, 0), 473);
    }

    private void day() {
        promise(30, "THE DAY: what it was.");
        is("0 at first", x.day(LAST_DAY), 0);
        is("then", x.day(7), LAST_DAY);
        is("alike", x.day(7), 7);
        is("back", x.day(0), 7);
        promise(30, "BAD.");
        x.day(7);
        bad("day", wrong -> x.day(wrong), -1, 100000);
        is("it stays", x.day(0), 7);
    }

    private void kind() {
        promise(31, "The KIND of a PART on THE DAY, as it is told.");
        housed(1, 1601);
        is("PART", x.kind(0), 0);
        x.day(365);
        is("PRIME", x.kind(0), 2);
        x.list(0, 2, 365, 366);
        x.day(366);
        is("KEPT", x.kind(0), 1);
        x.day(364);
        is("PART again", x.kind(0), 0);
        promise(31, "BAD.");
        x.house();
        is("no part", x.kind(0), BAD);
        x.part(0, 0, 1600, 0);
        bad("part", wrong -> x.kind(wrong), -1, 1, 16);
    }

    private void as() {
        promise(32, "A PART is taken as one of a KIND (0 .. 3): its year.");
        housed(1, 1000);
        x.part(0, 0, 1999, 0);
        is("PART", x.as(0, 0), 1000);
        is("YOUNG", x.as(1, 3), 1999);
        promise(32, "BAD;");
        x.house();
        is("no part", x.as(0, 0), BAD);
        x.part(0, 0, 1600, 0);
        bad("part", wrong -> x.as(wrong, 0), -1, 1, 16);
        bad("kind", wrong -> x.as(0, wrong), -1, 4);
        promise(32, "KIND: it is no such one (each is a PART, PRIME ones are KEPT, too).");
        housed(1, 1600);
        x.part(0, 0, 1690, 0);
        x.part(0, 0, 1650, 0);
        x.house();
        x.list(1, 2, 0, 0);
        x.part(1, 0, 1600, 0);
        are("PRIME", row(4, kind -> x.as(0, kind)), "1600 1600 1600 " + KIND);
        are("YOUNG", row(4, kind -> x.as(1, kind)), "1690 " + KIND + " " + KIND + " 1690");
        are("PART", row(4, kind -> x.as(2, kind)), "1650 " + KIND + " " + KIND + " " + KIND);
        are("KEPT", row(4, kind -> x.as(3, kind)), "1600 1600 " + KIND + " " + KIND);
    }

    private void ask() {
        promise(33, "An ASK (0, 1) of a PART.");
        housed(1, 1600);
        is("SIZE", x.ask(0, 0), 400);
        is("MARK", x.ask(0, 1), 410);
        promise(33, "BAD.");
        x.house();
        is("no part", x.ask(0, 0), BAD);
        x.part(0, 0, 1600, 0);
        bad("part", wrong -> x.ask(wrong, 0), -1, 1, 16);
        bad("what", wrong -> x.ask(0, wrong), -1, 2);
        promise(33, "THE TRACE is empty ahead of it.");
        housed(1, 1600);
        x.part(0, 0, 1650, 5);
        are("six bodies", asked(0, 1), "410: 22 21 20 12 11 10");
        are("one body", asked(1, 0), "5: 10");
        are("three", asked(0, 0), "400: 12 11 10");
        x.ask(2, 0);
        x.ask(0, 2);
        is("a refused one leaves it", x.trace(2), 10);
    }

    private void trace() {
        promise(34, "Number i of THE TRACE; NONE.");
        is("none yet", x.trace(0), NONE);
        housed(1, 1600);
        x.ask(0, 0);
        are("numbers", row(4, i -> x.trace(i)), "12 11 10 " + NONE);
        for (int wrong : new int[] {-1, 3, 15, 16, LEAST, MOST}) {
            is("i " + wrong, x.trace(wrong), NONE);
        }
    }

    private void count() {
        promise(35, "How many: 0 SHEETS, 1 HOUSES, 2 PARTS, 3 KEPT (PRIME, too), 4 PRIME ones, on THE DAY, 5 ACTS, 6 LEAVES, 7 WORKS, 8 CASES, 9 bytes on the tape.");
        are("none", row(10, k -> x.count(k)), "0 0 0 0 0 0 0 0 0 0");
        housed(1, 1600);
        x.part(0, 0, 1601, 0);
        x.house();
        x.list(1, 3, 0, 0);
        x.part(1, 0, 1600, 0);
        x.sheet(0, 0, 0);
        x.sheet(7, 0, 0);
        Due.read(x, "act 0 grade 1 any paint needs;");
        x.leave(0, 0, 0, 0, 0);
        x.work(0, 0, 0);
        x.enter(0, 0, 0);
        x.feed(0, 5);
        are("some", row(10, k -> x.count(k)), "2 2 3 2 1 1 1 1 1 5");
        x.day(365);
        x.drop(0);
        are("a year on", row(10, k -> x.count(k)), "1 2 3 3 2 1 1 1 1 5");
        x.acts();
        is("the tape is read", x.count(9), 0);
        promise(35, "BAD.");
        bad("what", wrong -> x.count(wrong), -1, 10);
    }
}
