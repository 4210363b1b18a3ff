/** ACTS: the tape, its texts and FAULTS, which work NEEDS leave, and promises 11 to 14. */
final class ActBoundaries extends Boundaries {
    private static final String SHORT = "act0grade1any paint free;";
    private static final String ONE = "act 0 grade 1 any paint free;";

    ActBoundaries(Sentences document, Due due) {
        super(document, due);
    }

    @Override
    void all() {
        fiveHundredBytes();
        names();
        numbers();
        signs();
        between();
        texts();
        daysAndGrades();
        sorts();
        works();
        soManyYears();
        behindThoseThereAre();
        theFirstTokenWithAFault();
        theLeastFaultOfAToken();
        cannotStandThere();
        atTheEnd();
        numbersNotAsTold();
        the25thAct();
        thatDayOrAhead();
        whatFits();
        theLatestDayToldLast();
        notIfThereIsNone();
        feed();
        feedRefused();
        acts();
        fault();
        needs();
        needsRefused();
    }

    /** What acts() answers to a text on a new object, and its fault: "place number". */
    private String fault(String text) {
        GradedHouses y = new GradedHouses();
        Due.feed(y, text);
        int answer = y.acts();
        return -1000100 - answer + " " + y.fault();
    }

    private void faulty(String text, String due) {
        are("'" + text + "'", fault(text), due);
    }

    private void fine(String text, int acts) {
        GradedHouses y = new GradedHouses();
        is("'" + text + "'", Due.read(y, text), acts);
        is("fault of '" + text + "'", y.fault(), 0);
    }

    private void fiveHundredBytes() {
        terms("ACTS, texts: THE TAPE has at most 500 bytes;");
        for (int k = 1; k <= 62; k++) {
            is("feed", x.feed(0x2020202020202020L, 8), 8 * k);
        }
        is("5 to 496", x.feed(0x2020202020L, 5), FULL);
        is("4 to 496", x.feed(0x20202020L, 4), 500);
        is("1 to 500", x.feed(32, 1), FULL);
        is("all blank", x.acts(), 0);
        is("there is room again", x.feed(0x2020202020202020L, 8), 8);
    }

    private void names() {
        terms("TOKENS: NAMES (letters a to z),");
        faulty("Act 1 grade 1 any paint free;", "0 1");
        faulty("act 1 grade 1 any pa`int free;", "18 1");
        faulty("act 1 grade 1 any pa{int free;", "18 1");
        faulty("act 1 grade 1 any pai_nt free;", "18 1");
        faulty("act 1 grade 1 any zz free;", "18 1");
        faulty("act 1 grade 1 any aa free;", "18 1");
        faulty("act 1 grade 1 any painta free;", "18 1");
        faulty("act 1 grade 1 any paintz free;", "18 1");
        faulty("act 1 grade 1 any pain free;", "18 1");
        faulty("act 1 grade 1 any paint`", "23 1");
        faulty("act 1 grade 1 any paint{", "23 1");
        fine("act 1 grade 1 any paint free;", 1);
    }

    private void numbers() {
        terms("NUMBERS (figures, 5 at most),");
        fine("act 99999 grade 1 any paint free;", 1);
        fine("act 00001 grade 00003 any paint older 00999 free;", 1);
        faulty("act 100000 grade 1 any paint free;", "4 1");
        faulty("act 000001 grade 1 any paint free;", "4 1");
        faulty("act 1 grade 000001 any paint free;", "12 1");
        faulty("act 1 grade 1 any paint older 000001 free;", "30 1");
        faulty("act 99999999999999999999 grade 1 any paint free;", "4 1");
        faulty("act 5/ grade", "5 1");
        faulty("act 5: grade", "5 1");
        faulty("act / grade", "4 1");
        faulty("act : grade", "4 1");
        faulty("act -1 grade", "4 1");
        fine("act 0 grade 1 any paint free;act 9 grade 1 any paint free;", 2);
    }

    private void signs() {
        terms("SIGNS ;");
        fine("act 1 grade 1 any paint free;", 1);
        faulty("act 1 grade 1 any paint free:", "28 1");
        faulty("act 1 grade 1 any paint free<", "28 1");
        faulty("act 1 grade 1 any paint free,", "28 1");
        faulty("act 1 grade 1 any paint free\u003b\u003b", "29 1");
        faulty("act 1 grade 1 any paint free\u00bb", "28 1");
    }

    private void between() {
        terms("bytes 32 and 10 between.");
        fine("  \n act \n\n 1 grade\n1 any  paint\nfree  ;\n ", 1);
        fine("act1grade1any paint older5free;act2grade2wall change needs;", 2);
        fine(" ", 0);
        fine("\n", 0);
        faulty("act\t1", "3 1");
        faulty("act\r1", "3 1");
        faulty("act\u000b1", "3 1");
        faulty("act\u00001", "3 1");
        faulty("act!1", "3 1");
        faulty("act\u001f1", "3 1");
        faulty("act\u00a01", "3 1");
        faulty("actgrade", "0 1");
        faulty("ac t 1", "0 1");
    }

    private void texts() {
        terms("text: { 'act' NUMBER 'grade' NUMBER sort work [ 'older' NUMBER ] ( 'needs' | 'free' ) ';' }:");
        fine("", 0);
        fine("act 1 grade 1 any paint free;", 1);
        fine("act 1 grade 1 any paint older 1 needs;act 1 grade 1 any paint needs;", 2);
        String[] tokens = {"act", "1", "grade", "1", "any", "paint", "older", "1", "needs", ";"};
        String ahead = "";
        for (String token : tokens) {
            faulty(ahead, ahead.isEmpty() ? "-1000100 0" : ahead.length() + " 1");
            faulty(ahead + "#", ahead.length() + " 1");
            for (String other : new String[] {"act", "1", "grade", "any", "paint", "older", "needs", ";"}) {
                boolean fits = other.equals(token) || token.equals("older") && other.equals("needs");
                if (!fits) {
                    faulty(ahead + other + " ", ahead.length() + " 1");
                }
            }
            ahead += token + " ";
        }
        faulty("act 1 grade 1 any paint older 1 older 1 free;", "32 1");
        faulty("act 1 grade 1 any paint free needs;", "29 1");
    }

    private void daysAndGrades() {
        terms("a day, a GRADE (1 to 3) of the HOUSE;");
        for (int grade = 1; grade <= 3; grade++) {
            anew();
            housed(grade, 1600);
            Due.read(x, "act 9 grade 1 any paint needs;act 9 grade 2 any paint needs;act 9 grade 3 any paint needs;");
            is("grade " + grade, x.needs(0, 3, 9, 1), grade - 1);
            is("a day ahead", x.needs(0, 3, 8, 1), NONE);
        }
        faulty("act 9 grade 0 any paint needs;", "12 2");
        faulty("act 9 grade 4 any paint needs;", "12 2");
    }

    private void sorts() {
        terms("sort: 'window' | 'wall' | 'roof' | 'door' | 'floor' | 'any';");
        housed(1, 1600);
        for (int sort = 0; sort < 5; sort++) {
            x.part(0, sort, 1600, 0);
        }
        String[] names = {"window", "wall", "roof", "door", "floor"};
        for (int sort = 0; sort < 5; sort++) {
            Due.read(x, "act " + sort + " grade 1 " + names[sort] + " paint needs;");
        }
        are("by name", row(5, k -> x.needs(k + 1, 3, 4, 1)), "0 1 2 3 4");
        Due.read(x, "act 5 grade 1 any paint needs;");
        are("any", row(5, k -> x.needs(k + 1, 3, 5, 1)), "5 5 5 5 5");
        faulty("act 1 grade 1 windows paint free;", "14 1");
        faulty("act 1 grade 1 all paint free;", "14 1");
        faulty("act 1 grade 1 paint free;", "14 1");
    }

    private void works() {
        terms("work: 'repair' | 'change' | 'remove' | 'paint' (0 to 3);");
        housed(1, 1600);
        Due.read(x, "act 1 grade 1 any repair needs;act 1 grade 1 any change needs;");
        Due.read(x, "act 1 grade 1 any remove needs;act 1 grade 1 any paint needs;");
        are("by number", row(4, k -> x.needs(0, k, 1, 1)), "0 1 2 3");
        faulty("act 1 grade 1 any any free;", "18 1");
        faulty("act 1 grade 1 any build free;", "18 1");
    }

    private void soManyYears() {
        terms("for PARTS of so many years or more (0 without).");
        housed(1, 1690);
        x.part(0, 0, 1700, 0);
        x.part(0, 0, 1701, 0);
        x.part(0, 0, 1000, 0);
        Due.read(x, "act 0 grade 1 any paint older 10 needs;act 0 grade 1 any change older 11 needs;");
        Due.read(x, "act 0 grade 1 any remove needs;act 0 grade 1 any repair older 0 needs;");
        is("10 years, of 10 or more", x.needs(0, 3, 0, 0), 1);
        is("10 years, of 11 or more", x.needs(0, 1, 364, 0), 0);
        is("11 years, of 11 or more", x.needs(0, 1, 365, 0), 1);
        is("0 years, without", x.needs(1, 2, 0, 0), 1);
        is("0 years, of 0 or more", x.needs(1, 0, 0, 0), 1);
        is("made in a later year, without", x.needs(2, 2, 364, 0), 0);
        is("made in a later year, of 0 or more", x.needs(2, 0, 364, 0), 0);
        is("made this year", x.needs(2, 2, 365, 0), 1);
        Due.read(x, "act 0 grade 1 any paint older 999 free;");
        is("972 years, of 999 or more", x.needs(3, 3, LAST_DAY, 1), 0);
    }

    private void behindThoseThereAre() {
        terms("They come behind those there are (24 together at most).");
        housed(1, 1600);
        Due.read(x, "act 3 grade 1 any paint needs;act 2 grade 1 any paint needs;");
        is("two more", Due.read(x, "act 1 grade 1 any paint needs;act 0 grade 1 any paint needs;"), 4);
        are("their numbers", row(4, k -> x.needs(0, 3, k, 1)), "3 2 1 0");
        for (int k = 5; k <= 24; k++) {
            is("act", Due.read(x, SHORT), k);
        }
        is("a 25th", Due.read(x, SHORT), -1000100);
        is("count(5)", x.count(5), 24);
    }

    private void theFirstTokenWithAFault() {
        terms("FAULTS, the first TOKEN that has one (its first byte),");
        faulty("act 1 grade 4 all build may", "12 2");
        faulty("act x grade 4", "4 1");
        faulty("act 1 grade 1 any paint older 1000 x;", "30 2");
        faulty("act 1 grade 1 any paint free;\n\n  nothing", "33 1");
        faulty("act 1 grade 1 any paint free;act 1 grade 9 any paint free;", "41 2");
        faulty("   act 1 graded 1", "9 1");
        faulty("x", "0 1");
    }

    private void theLeastFaultOfAToken() {
        terms("of one TOKEN the least:");
        faulty("act 1 grade 999999 any", "12 1");
        faulty("act 1 grade 1 any paint older 999999 free;", "30 1");
        faulty("act 1 grade 99999 any", "12 2");
        for (int k = 0; k < 24; k++) {
            Due.read(x, SHORT);
        }
        is("not 'act' where the 25th would be", Due.read(x, "acts"), -1000100);
        is("is 1", x.fault(), 1);
        is("a number there", Due.read(x, " 1000000"), -1000101);
        is("is 1, too", x.fault(), 1);
        is("'act' there", Due.read(x, "act"), -1000100);
        is("is 3", x.fault(), 3);
    }

    private void cannotStandThere() {
        terms("1 it cannot stand there, or is none");
        faulty("act grade", "4 1");
        faulty("act 1 1", "6 1");
        faulty("act 1 grade ;", "12 1");
        faulty("act 1 grade 1 any paint ;", "24 1");
        faulty("act 1 grade 1 any paint older free;", "30 1");
        faulty("act ? 1", "4 1");
        faulty("\u00ff", "0 1");
        faulty("act 1234567", "4 1");
        for (int other = 0; other < 256; other++) {
            boolean blank = other == 32 || other == 10;
            faulty(ONE + (char) other, blank ? "-1000101 0" : ONE.length() + " 1");
        }
    }

    private void atTheEnd() {
        terms("(the end: how many bytes there are);");
        faulty("act", "3 1");
        faulty("act ", "4 1");
        faulty("act\n \n", "6 1");
        faulty("act 1 grade 1 any paint older", "29 1");
        faulty("act 1 grade 1 any paint free", "28 1");
        faulty(" ".repeat(497) + "act", "500 1");
        faulty("act" + " ".repeat(497), "500 1");
        fine(" ".repeat(500), 0);
        fine("act 1 grade 1 any paint free;" + " ".repeat(471), 1);
    }

    private void numbersNotAsTold() {
        terms("2 a NUMBER that is not as told (a GRADE; 'older' above 999);");
        faulty("act 1 grade 0 any paint free;", "12 2");
        faulty("act 1 grade 4 any paint free;", "12 2");
        faulty("act 1 grade 00000 any paint free;", "12 2");
        faulty("act 1 grade 99999 any paint free;", "12 2");
        faulty("act 1 grade 1 any paint older 1000 free;", "30 2");
        faulty("act 1 grade 1 any paint older 99999 free;", "30 2");
        fine("act 1 grade 1 any paint older 999 free;", 1);
        fine("act 1 grade 3 any paint older 0 free;", 1);
    }

    private void the25thAct() {
        terms("3 the 25th ACT (its 'act').");
        is("20 in one text", Due.read(x, SHORT.repeat(20)), 20);
        is("five more", Due.read(x, SHORT.repeat(5)), -1000100 - 4 * SHORT.length());
        is("3", x.fault(), 3);
        is("none of the five came", x.count(5), 20);
        is("four more", Due.read(x, SHORT.repeat(4)), 24);
        is("one more", Due.read(x, "\n " + SHORT), -1000102);
        is("3 again", x.fault(), 3);
        is("whatever comes behind it", Due.read(x, "act act"), -1000100);
        is("3 still", x.fault(), 3);
        is("a fault ahead of it", Due.read(x, "9act"), -1000100);
        is("1", x.fault(), 1);
        is("nothing more", Due.read(x, " \n"), 24);
    }

    private void thatDayOrAhead() {
        terms("A work on a PART NEEDS leave on a day, if of the ACTS of that day or ahead that fit");
        housed(1, 1600);
        Due.read(x, "act 100 grade 1 any paint needs;act 99999 grade 1 any paint free;");
        is("a day ahead", x.needs(0, 3, 99, 0), 0);
        is("that day", x.needs(0, 3, 100, 0), 1);
        is("a day ahead of the last", x.needs(0, 3, 99998, 0), 1);
        is("the last day", x.needs(0, 3, LAST_DAY, 0), 0);
    }

    private void whatFits() {
        terms("(GRADE on that day AS KNOWN that day, SORT or any, work, age)");
        x.house();
        x.list(0, 2, 0, 0);
        x.list(0, 1, 100, 200);
        x.part(0, 1, 1690, 0);
        Due.read(x, "act 0 grade 2 wall change needs;act 0 grade 1 any change older 11 needs;");
        is("grade 2", x.needs(0, 1, 99, 1), 0);
        is("grade 1 is not known yet", x.needs(0, 1, 199, 1), 0);
        is("grade 1, too young", x.needs(0, 1, 200, 1), NONE);
        is("grade 1", x.needs(0, 1, 365, 1), 1);
        is("another work", x.needs(0, 2, 365, 1), NONE);
        x.part(0, 0, 1690, 0);
        is("another sort", x.needs(1, 1, 99, 1), NONE);
        is("any sort", x.needs(1, 1, 365, 1), 1);
        x.list(0, 0, 400, 400);
        is("no grade", x.needs(0, 1, 400, 1), NONE);
        x.day(300);
        is("THE DAY is nothing to it", x.needs(0, 1, 99, 1), 0);
    }

    private void theLatestDayToldLast() {
        terms("the one of the latest day, of one day told last, says so;");
        housed(1, 1600);
        Due.read(x, "act 20 grade 1 any paint needs;act 10 grade 1 any paint free;");
        is("the latest, told first", x.needs(0, 3, 20, 0), 1);
        is("the one ahead", x.needs(0, 3, 19, 0), 0);
        Due.read(x, "act 20 grade 1 window paint free;");
        is("of one day told last", x.needs(0, 3, 20, 0), 0);
        Due.read(x, "act 20 grade 1 any paint needs;act 20 grade 1 wall paint free;");
        is("of those that fit", x.needs(0, 3, 20, 1), 3);
        is("says so", x.needs(0, 3, 20, 0), 1);
    }

    private void notIfThereIsNone() {
        terms("not, if there is none.");
        housed(1, 1600);
        is("no act", x.needs(0, 0, LAST_DAY, 0), 0);
        Due.read(x, "act 0 grade 2 any repair needs;act 0 grade 1 any paint needs;act 0 grade 1 wall repair needs;");
        is("none that fits", x.needs(0, 0, LAST_DAY, 0), 0);
        anew();
        x.house();
        x.part(0, 0, 1600, 0);
        Due.read(x, "act 0 grade 1 any repair needs;act 0 grade 2 any repair needs;act 0 grade 3 any repair needs;");
        is("no grade", x.needs(0, 0, LAST_DAY, 0), 0);
    }

    private void feed() {
        promise(11, "The lowest n bytes of w (1 to 8), the highest of them first, come behind the tape: how many it has.");
        is("one", x.feed(0x7878787878787861L, 1), 1);
        is("two", x.feed(0x7878787878786374L, 2), 3);
        is("eight", x.feed(0x2031206772616465L, 8), 11);
        is("three", x.feed(0x203120L, 3), 14);
        is("seven", x.feed(0xff616e7920706169L, 7), 21);
        is("six", x.feed(0x6e7420667265L, 6), 27);
        is("two more", x.feed(0x653bL, 2), 29);
        is("read", x.acts(), 1);
        is("a byte above 127", x.feed(-1L, 8), 8);
        is("is none of 0 to 127", x.acts(), -1000100);
        x.feed(0x80L, 1);
        is("128", x.acts(), -1000100);
    }

    private void feedRefused() {
        promise(11, "BAD: n;");
        bad("n", wrong -> x.feed(32, wrong), 0, 9, -1);
        is("count(9)", x.count(9), 0);
        promise(11, "FULL: none comes.");
        for (int k = 0; k < 62; k++) {
            x.feed(0x2020202020202020L, 8);
        }
        for (int n = 5; n <= 8; n++) {
            is("n " + n, x.feed(0, n), FULL);
        }
        is("none came", x.count(9), 496);
        is("four", x.feed(0x20202020L, 4), 500);
        is("one more", x.feed(0, 1), FULL);
        is("of all the bytes none is strange", x.acts(), 0);
    }

    private void acts() {
        promise(12, "The tape, empty then, is read: how many ACTS there are.");
        is("nothing", x.acts(), 0);
        is("one", Due.read(x, SHORT), 1);
        is("empty then", x.count(9), 0);
        is("nothing more", x.acts(), 1);
        is("one more", Due.read(x, SHORT), 2);
        is("a fault", Due.read(x, SHORT + "act"), -1000128);
        is("empty then, too", x.count(9), 0);
        is("the fault is gone with its text", x.acts(), 2);
        promise(12, "-1000100 less the place of a FAULT: none comes.");
        housed(1, 1600);
        is("at 0", Due.read(x, "x"), -1000100);
        is("at 25", Due.read(x, SHORT + "x"), -1000125);
        is("none came", x.count(5), 0);
        is("nor says any", x.needs(0, 3, 0, 1), NONE);
        is("at 500", Due.read(x, "act" + " ".repeat(497)), -1000600);
        is("behind that", Due.read(x, "act 0 grade 1 any paint needs;"), 1);
        is("the first one", x.needs(0, 3, 0, 1), 0);
    }

    private void fault() {
        promise(13, "The number of the latest FAULT;");
        Due.read(x, "act 1 grade 4");
        is("2", x.fault(), 2);
        Due.read(x, "act 1 grade x");
        is("1", x.fault(), 1);
        Due.read(x, SHORT);
        is("it stays with a good text", x.fault(), 1);
        x.acts();
        is("and with none", x.fault(), 1);
        for (int k = 0; k < 24; k++) {
            Due.read(x, SHORT);
        }
        is("3", x.fault(), 3);
        promise(13, "0 before one.");
        is("new", x.fault(), 0);
        Due.read(x, SHORT);
        is("after a good text", x.fault(), 0);
        Due.feed(x, "x");
        is("not read yet", x.fault(), 0);
    }

    private void needs() {
        promise(14, "Whether a work (0 to 3) on a PART NEEDS leave on a day: 1, 0 (what = 0);");
        housed(1, 1600);
        Due.read(x, "act 9 grade 1 any repair needs;act 9 grade 1 any paint needs;act 10 grade 1 any paint free;");
        is("1", x.needs(0, 0, 9, 0), 1);
        is("paint", x.needs(0, 3, 9, 0), 1);
        is("free", x.needs(0, 3, 10, 0), 0);
        is("no act", x.needs(0, 0, 8, 0), 0);
        promise(14, "the ACT that says it (1; NONE).");
        housed(1, 1600);
        is("without acts", x.needs(0, 3, LAST_DAY, 1), NONE);
        Due.read(x, "act 9 grade 1 any paint needs;act 10 grade 1 any paint free;");
        is("needs", x.needs(0, 3, 9, 1), 0);
        is("free", x.needs(0, 3, 10, 1), 1);
        is("ahead", x.needs(0, 3, 8, 1), NONE);
        is("another work", x.needs(0, 0, 10, 1), NONE);
    }

    private void needsRefused() {
        promise(14, "BAD.");
        x.house();
        is("no part", x.needs(0, 0, 0, 0), BAD);
        x.part(0, 0, 1600, 0);
        bad("part", wrong -> x.needs(wrong, 0, 0, 0), -1, 1);
        bad("work", wrong -> x.needs(0, wrong, 0, 0), -1, 4);
        bad("day", wrong -> x.needs(0, 0, wrong, 0), -1, 100000);
        bad("what", wrong -> x.needs(0, 0, 0, wrong), -1, 2);
    }
}
