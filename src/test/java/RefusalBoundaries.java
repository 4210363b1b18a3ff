import java.util.function.ToIntFunction;

/** Numbers, what is divided, and refusals: their order, their numbers, and that they change nothing. */
final class RefusalBoundaries extends Boundaries {
    private static final String SHORT = "act0grade1any paint free;";

    RefusalBoundaries(Sentences document, Due due) {
        super(document, due);
    }

    @Override
    void all() {
        numbersFromZero();
        cutTowardsZero();
        badAheadOfState();
        badAheadOfFull();
        badAheadOfFindings();
        theFirstInTime();
        numbersOfFindings();
        badChangesNothing();
        badOfOthersChangesNothing();
        stateAndFullChangeNothing();
        findingsChangeNothing();
    }

    private void numbersFromZero() {
        terms("Numbers go from 0 on.");
        is("house", x.house(), 0);
        is("part", x.part(0, 0, 1600, 0), 0);
        is("leave", x.leave(0, 0, 0, 0, 1), 0);
        is("condition", x.row(0, 0), 0);
        is("work", x.work(0, 0, 0), 0);
        is("case", x.enter(0, 0, 0), 0);
        is("the like case", x.like(0, 0, 0, 0), 0);
        is("sheet", x.sheet(0, 0, 1), 1);
        is("item", x.set(0, 0, 5), 5);
        x.list(0, 1, 0, 0);
        Due.read(x, "act 0 grade 1 any paint needs;");
        is("act", x.needs(0, 3, 0, 1), 0);
        x.ask(0, 0);
        is("trace", x.trace(0), 12);
        is("place of a fault", Due.read(x, "?"), -1000100);
    }

    private void cutTowardsZero() {
        terms("All that is divided is cut towards 0.");
        is("half of 1", x.grant(1, 1), 0);
        is("half of 3", x.grant(3, 1), 1);
        is("a third of 2", x.grant(2, 2), 0);
        is("a third of 5", x.grant(5, 2), 1);
        is("a tenth of 9", x.grant(9, 3), 0);
        is("a tenth of 19", x.grant(19, 3), 1);
        x.house();
        x.part(0, 0, 1700, 1);
        x.part(0, 0, 1700, 9999);
        is("1 by 2", x.ask(0, 0), 0);
        is("9999 by 2", x.ask(1, 0), 4999);
        x.day(364);
        is("364 by 365", x.told(0, 4), 0);
        x.day(729);
        is("729 by 365", x.told(0, 4), 1);
    }

    private void badAheadOfState() {
        terms("Refusals are answers, the first of these that fits: BAD (a number is not as told; there is no such thing), STATE (as told),");
        housed(1, 1600);
        x.leave(0, 0, 0, 0, 1);
        is("STATE", x.prove(0, 1, 0), STATE);
        is("BAD: day", x.prove(0, 1, -1), BAD);
        is("BAD: no such leave", x.prove(1, 1, 0), BAD);
        is("BAD: no such condition", x.prove(0, 8, 0), BAD);
        x.prove(0, 0, 0);
        is("STATE, proven", x.prove(0, 0, 0), STATE);
        is("BAD: day, proven", x.prove(0, 0, 100000), BAD);
    }

    private void badAheadOfFull() {
        terms("FULL (as told), then FINDINGS,");
        full();
        is("list", x.list(0, 1, 0, 0), FULL);
        is("list, BAD", x.list(0, 4, 0, 0), BAD);
        is("list of no house", x.list(6, 1, 0, 0), BAD);
        is("part", x.part(0, 0, 1600, 0), FULL);
        is("part, BAD", x.part(0, 5, 1600, 0), BAD);
        is("feed", x.feed(0, 1), FULL);
        is("feed, BAD", x.feed(0, 0), BAD);
        is("feed of 9", x.feed(0, 9), BAD);
        is("leave", x.leave(0, 0, 0, 0, 0), FULL);
        is("leave, BAD", x.leave(0, 0, 1, 0, 0), BAD);
        is("ahead", x.ahead(0, 1), FULL);
        is("ahead, BAD", x.ahead(1, 1), BAD);
        is("work", x.work(0, 0, 0), FULL);
        is("work, BAD", x.work(16, 0, 0), BAD);
        is("enter", x.enter(0, 0, 0), FULL);
        is("enter, BAD", x.enter(0, 2, 0), BAD);
    }

    private void badAheadOfFindings() {
        terms("the first of these that fits: BAD");
        housed(1, 1600);
        x.sheet(0, 0, 1);
        is("sheet", x.sheet(0, 3, -1), BAD);
        is("sheet 8", x.sheet(8, 0, -1), BAD);
        is("copy to 8", x.copy(7, 0, 8, 0, -1), BAD);
        is("copy of -1", x.copy(-1, 0, 7, 0, -1), BAD);
        is("fund, n", x.fund(7, -1, 0, 0, 0), BAD);
        is("fund, fund", x.fund(7, -1, 1, 501, 0), BAD);
        is("fund, what", x.fund(0, -1, 1, 0, 2), BAD);
        is("use, n", x.use(7, -1, 13, 0, 0, 0, 0), BAD);
        is("use, need", x.use(7, -1, 1, 5001, 0, 0, 0), BAD);
        is("use, grade", x.use(0, -1, 1, 0, 4, 0, 0), BAD);
        is("use, worth", x.use(0, -1, 1, 0, 0, -1, 0), BAD);
        is("use, what", x.use(0, -1, 1, 0, 0, 0, 3), BAD);
        is("sight, x1", x.sight(7, -1, 0, 1, 1), BAD);
        is("sight, alike", x.sight(0, 1, 1, 1, 1), BAD);
        is("as", x.as(1, 3), BAD);
        is("status", x.status(), 0);
    }

    private void theFirstInTime() {
        terms("of several the first in time:");
        x.sheet(0, 0, 2);
        x.sheet(1, 1, 2);
        is("set, NULL", x.set(7, -1, 0), NULL);
        is("copy, NULL by a", x.copy(7, -1, 0, -1, -1), NULL);
        is("copy, NULL by b", x.copy(0, -1, 7, -1, -1), NULL);
        is("copy, STORE", x.copy(0, -1, 1, -1, -1), STORE);
        is("copy, PLACE", x.copy(0, -1, 0, -1, -1), PLACE);
        is("fund, NULL", x.fund(7, -1, 1, 0, 0), NULL);
        is("use, NULL", x.use(7, -1, 1, 0, 0, 0, 0), NULL);
        is("fund, PLACE ahead of an ITEM", x.fund(0, 0, 2, 0, 0), PLACE);
        is("use, PLACE ahead of an ITEM", x.use(0, 0, 2, 0, 0, 0, 0), PLACE);
        x.set(0, 0, -1);
        is("sight, PLACE ahead of an ITEM", x.sight(0, 0, 0, 1, 1), PLACE);
    }

    private void numbersOfFindings() {
        terms("-1000010 less 1 NULL (a SHEET that is missing), 2 PLACE (no such place of a SHEET), 3 KIND (a PART that is not that), 4 SIZE (fewer than none), 5 STORE (SHEETS of two LANES).");
        housed(1, 1600);
        is("NULL", x.drop(0), -1000011);
        is("1", x.status(), 1);
        x.sheet(0, 0, 1);
        x.sheet(1, 1, 1);
        is("PLACE", x.set(0, 1, 0), -1000012);
        is("2", x.status(), 2);
        is("KIND", x.as(0, 3), -1000013);
        is("3", x.status(), 3);
        is("SIZE", x.sheet(0, 0, -1), -1000014);
        is("4", x.status(), 4);
        is("STORE", x.copy(0, 0, 1, 0, 1), -1000015);
        is("5", x.status(), 5);
        is("NONE", GradedHouses.NONE, -1000000);
        is("BAD", GradedHouses.BAD, -1000001);
        is("STATE", GradedHouses.STATE, -1000002);
        is("FULL", GradedHouses.FULL, -1000003);
    }

    // ---- what is refused, or found, changes nothing

    /** Some of everything, with room for more, and a finding that status() has kept. */
    private void some() {
        anew();
        Due.lay(x, 0, 5, 50, 6, 60, 7, 70, 8, 80);
        x.sheet(1, 1, 100);
        x.set(1, 5, 7);
        x.sheet(2, 2, 8);
        x.house();
        x.house();
        x.list(0, 1, 0, 0);
        x.list(1, 2, 10, 20);
        x.part(0, 0, 1600, 100);
        x.part(0, 3, 1690, 100);
        x.part(1, 4, 1650, 100);
        Due.read(x, "act 0 grade 1 any change needs;act 20 grade 2 floor paint needs;");
        x.leave(0, 1, 10, 20, 0b111);
        x.leave(1, 1, 10, 20, 0b11000);
        x.prove(0, 1, 15);
        x.ahead(2, 0);
        x.ahead(3, 4);
        x.work(0, 1, 15);
        x.work(1, 1, 9);
        x.enter(7, 1, 5);
        x.enter(1, 0, 5);
        x.weight(1, 4);
        x.day(30);
        x.ask(0, 1);
        Due.feed(x, "act 9 gr");
        x.as(0, 3);
    }

    /** As much of everything as there may be. */
    private void full() {
        anew();
        Due.read(x, SHORT.repeat(20));
        Due.read(x, SHORT.repeat(4));
        Due.feed(x, " ".repeat(475) + SHORT);
        for (int k = 0; k < 30; k++) {
            if (k < 6) {
                x.house();
            }
            x.list(k % 6, 1 + k % 3, k, k);
            if (k < 16) {
                x.part(k % 6, k % 5, 1500 + k, k);
                x.enter(k, k % 2, k);
            }
            if (k < 10) {
                x.leave(k, 3, k, 50, 16 * k);
            }
            if (k < 20) {
                x.work(k % 16, 3, k);
            }
            x.ahead(k % 7, 7);
        }
        x.as(0, 3);
    }

    /**
     * All that can be seen of an object but its status, ending with calls that use it up. With the
     * calls of full() that stays below the 512 that an object is good for.
     */
    private String seen() {
        StringBuilder all = new StringBuilder();
        look(all, row(10, k -> x.count(k)), row(7, k -> x.trace(k)), x.fault() + "");
        look(all, row(4, k -> x.use(0, 2 * k, 1, 1, 0, 0, 1)), row(4, k -> x.fund(0, 2 * k, 1, 500, 1)));
        look(all, row(4, k -> x.copy(0, 0, k, 0, 0)), row(4, k -> x.copy(1, 0, k, 0, 0)), row(4, k -> x.copy(2, 0, k, 0, 0)));
        look(all, "" + x.sight(1, 0, 0, 9, 0), "" + x.sight(1, 4, 0, 9, 0), "" + x.set(2, 7, 70000));
        look(all, row(6, k -> x.grade(k, 40, 40)), row(6, k -> x.grade(k, 10, 15)));
        look(all, row(16, k -> x.told(k, 3)), row(16, k -> x.kind(k)));
        look(all, row(4, k -> x.needs(0, k, 30, 1)), row(4, k -> x.needs(2, k, 30, 1)));
        look(all, row(10, k -> x.conditions(k, 1)), row(10, k -> x.conditions(k, 2)), row(10, k -> x.conditions(k, 3)));
        look(all, row(10, k -> x.row(k, 0)), row(20, k -> x.judged(k, 0)), row(4, k -> x.judged(k, 1)));
        look(all, row(16, k -> x.like(3, LAST_DAY, k, 0)), row(16, k -> x.like(4095, LAST_DAY, k, 1)));
        look(all, row(12, k -> x.weight(k, 1)), row(3, k -> x.prove(0, k, 0)), row(8, k -> x.drop(k)));
        look(all, x.house() + "", x.list(0, 1, 50, 50) + "", x.part(0, 0, 1700, 0) + "", x.leave(0, 0, 0, 0, 0) + "");
        look(all, x.ahead(0, 1) + "", x.work(0, 0, 0) + "", x.enter(0, 0, 0) + "", x.day(0) + "", x.feed(59, 1) + "");
        look(all, x.acts() + "", x.fault() + "", x.count(5) + "");
        return all.toString();
    }

    private static void look(StringBuilder all, String... answers) {
        for (String answer : answers) {
            all.append(answer).append(", ");
        }
    }

    private void unchanged(Runnable state, String call, ToIntFunction<GradedHouses> refused, int due) {
        state.run();
        int before = x.status();
        String untouched = seen();
        state.run();
        is(call, refused.applyAsInt(x), due);
        int found = -1000010 - due;
        is("status behind " + call, x.status(), found > 0 ? found : before);
        are("all behind " + call, seen(), untouched);
    }

    private void bad(String call, ToIntFunction<GradedHouses> refused) {
        unchanged(this::some, call, refused, BAD);
    }

    private void badChangesNothing() {
        terms("What is refused, or found, changes nothing but status().");
        bad("sheet(0, 3, 4)", y -> y.sheet(0, 3, 4));
        bad("sheet(0, 1, 101)", y -> y.sheet(0, 1, 101));
        bad("set(8, 0, 9)", y -> y.set(8, 0, 9));
        bad("copy(0, 0, 8, 0, 2)", y -> y.copy(0, 0, 8, 0, 2));
        bad("drop(-1)", y -> y.drop(-1));
        bad("fund(1, 0, 12, 0, 0), an ITEM", y -> y.fund(1, 0, 12, 0, 0));
        bad("fund(0, 0, 4, 0, 2)", y -> y.fund(0, 0, 4, 0, 2));
        bad("use(1, 0, 12, 0, 0, 0, 0), an ITEM", y -> y.use(1, 0, 12, 0, 0, 0, 0));
        bad("use(0, 0, 4, 0, 0, 0, 3)", y -> y.use(0, 0, 4, 0, 0, 0, 3));
        bad("sight(1, 0, 0, 0, 0)", y -> y.sight(1, 0, 0, 0, 0));
        bad("as(0, 4)", y -> y.as(0, 4));
        bad("as(3, 0)", y -> y.as(3, 0));
    }

    private void badOfOthersChangesNothing() {
        bad("list(0, 4, 0, 0)", y -> y.list(0, 4, 0, 0));
        bad("list(0, 3, 5, 4)", y -> y.list(0, 3, 5, 4));
        bad("grade(2, 0, 0)", y -> y.grade(2, 0, 0));
        bad("part(0, 0, 999, 0)", y -> y.part(0, 0, 999, 0));
        bad("told(0, 6)", y -> y.told(0, 6));
        bad("feed(97, 0)", y -> y.feed(97, 0));
        bad("feed(97, 9)", y -> y.feed(97, 9));
        bad("needs(0, 0, 0, 2)", y -> y.needs(0, 0, 0, 2));
        bad("leave(0, 1, 15, 14, 0)", y -> y.leave(0, 1, 15, 14, 0));
        bad("prove(0, 0, 100000)", y -> y.prove(0, 0, 100000));
        bad("ahead(4, 4)", y -> y.ahead(4, 4));
        bad("conditions(0, 4)", y -> y.conditions(0, 4));
        bad("row(2, 0)", y -> y.row(2, 0));
        bad("work(0, 1, 100000)", y -> y.work(0, 1, 100000));
        bad("judged(0, 2)", y -> y.judged(0, 2));
        bad("grant(0, 4)", y -> y.grant(0, 4));
        bad("enter(7, 2, 5)", y -> y.enter(7, 2, 5));
        bad("weight(1, 10)", y -> y.weight(1, 10));
        bad("weight(12, 9)", y -> y.weight(12, 9));
        bad("like(7, 5, 0, 3)", y -> y.like(7, 5, 0, 3));
        bad("binds(4096, 5)", y -> y.binds(4096, 5));
        bad("day(100000)", y -> y.day(100000));
        bad("day(-1)", y -> y.day(-1));
        bad("kind(3)", y -> y.kind(3));
        bad("ask(0, 2)", y -> y.ask(0, 2));
        bad("ask(3, 0)", y -> y.ask(3, 0));
        bad("count(10)", y -> y.count(10));
    }

    private void stateAndFullChangeNothing() {
        unchanged(this::some, "prove(0, 1, 9), proven", y -> y.prove(0, 1, 9), STATE);
        unchanged(this::some, "prove(0, 3, 9), none of it", y -> y.prove(0, 3, 9), STATE);
        unchanged(this::full, "house()", y -> y.house(), FULL);
        unchanged(this::full, "list(0, 1, 5, 5)", y -> y.list(0, 1, 5, 5), FULL);
        unchanged(this::full, "part(0, 0, 1500, 9)", y -> y.part(0, 0, 1500, 9), FULL);
        unchanged(this::full, "feed(97, 1)", y -> y.feed(97, 1), FULL);
        unchanged(this::full, "leave(0, 3, 0, 9, 1)", y -> y.leave(0, 3, 0, 9, 1), FULL);
        unchanged(this::full, "ahead(7, 0)", y -> y.ahead(7, 0), FULL);
        unchanged(this::full, "work(0, 3, 9)", y -> y.work(0, 3, 9), FULL);
        unchanged(this::full, "enter(3, 0, 9)", y -> y.enter(3, 0, 9), FULL);
    }

    private void findingsChangeNothing() {
        unchanged(this::some, "sheet(0, 0, -1)", y -> y.sheet(0, 0, -1), SIZE);
        unchanged(this::some, "sheet(7, 0, -1)", y -> y.sheet(7, 0, -1), SIZE);
        unchanged(this::some, "set(7, 0, 9)", y -> y.set(7, 0, 9), NULL);
        unchanged(this::some, "set(0, 8, 9)", y -> y.set(0, 8, 9), PLACE);
        unchanged(this::some, "copy(0, 0, 7, 0, 4)", y -> y.copy(0, 0, 7, 0, 4), NULL);
        unchanged(this::some, "copy(0, 0, 1, 0, 4)", y -> y.copy(0, 0, 1, 0, 4), STORE);
        unchanged(this::some, "copy(0, 0, 2, 1, 8)", y -> y.copy(0, 0, 2, 1, 8), PLACE);
        unchanged(this::some, "copy(2, 0, 0, 1, 8)", y -> y.copy(2, 0, 0, 1, 8), PLACE);
        unchanged(this::some, "drop(7)", y -> y.drop(7), NULL);
        unchanged(this::some, "fund(7, 0, 1, 0, 0)", y -> y.fund(7, 0, 1, 0, 0), NULL);
        unchanged(this::some, "fund(0, 1, 4, 0, 0)", y -> y.fund(0, 1, 4, 0, 0), PLACE);
        unchanged(this::some, "use(7, 0, 1, 0, 0, 0, 0)", y -> y.use(7, 0, 1, 0, 0, 0, 0), NULL);
        unchanged(this::some, "use(0, 1, 4, 0, 0, 0, 0)", y -> y.use(0, 1, 4, 0, 0, 0, 0), PLACE);
        unchanged(this::some, "sight(7, 0, 0, 1, 1)", y -> y.sight(7, 0, 0, 1, 1), NULL);
        unchanged(this::some, "sight(0, 0, 0, 1, 1)", y -> y.sight(0, 0, 0, 1, 1), PLACE);
        unchanged(this::some, "as(0, 3)", y -> y.as(0, 3), KIND);
    }
}
