import java.util.Arrays;

/**
 * Houses that may not change: the list of their grades, their parts, the acts of law, leaves and
 * works, grants and funds, like cases and sight lines. Refusals are answers: no call ever throws.
 */
public final class GradedHouses {
    public static final int NONE = -1000000, BAD = -1000001, STATE = -1000002, FULL = -1000003;

    private static final int FINDINGS = -1000010;
    private static final int MISSING = 1, NO_PLACE = 2, NOT_THAT_KIND = 3, BELOW_NONE = 4, TWO_LANES = 5;

    private static final int FAULTS = -1000100;
    private static final int OUT_OF_PLACE = 1, WRONG_NUMBER = 2, ONE_ACT_TOO_MANY = 3;

    private static final int SHEETS = 8, MOST_ITEMS = 100;
    private static final int BYTES = 0, SHORTS = 1, INTS = 2;
    private static final int MOST_HOUSES = 6, MOST_LISTINGS = 30, MOST_PARTS = 16;
    private static final int MOST_BYTES = 500, MOST_FIGURES = 5, MOST_ACTS = 24;
    private static final int MOST_LEAVES = 10, MOST_RULES = 30, MOST_WORKS = 20;
    private static final int CONDITIONS = 8, SETS_OF_CONDITIONS = 256;
    private static final int MOST_CASES = 16, MARKS = 12, SETS_OF_MARKS = 4096;
    private static final int MOST_CHOICES = 12, MOST_TRACED = 16, SIDE = 10;

    private static final int LAST_DAY = 99999, DAYS_OF_A_YEAR = 365, FIRST_YEAR = 1700;
    private static final int LOWEST_GRADE = 3, HIGHEST_GRADE = 1;
    private static final int LAST_SORT = 4, ANY_SORT = 5, LAST_WORK = 3;
    private static final int YEARS_OF_KEPT = 100, YEARS_OF_GROWN = 30;
    private static final int PLAIN = 0, KEPT = 1, PRIME = 2, YOUNG = 3;
    private static final int FREE = 0, LAWFUL = 1, UNMET = 2, PAST = 3, EARLY = 4, WITHOUT = 5;

    private static final String SORT_WORDS = "window wall roof door floor any";
    private static final String WORK_WORDS = "repair change remove paint";
    private static final String END_WORDS = "needs free";

    private final Sheet[] sheets = new Sheet[SHEETS];
    private final Houses houses = new Houses();
    private final Part[] parts = new Part[MOST_PARTS];
    private int partCount;
    private final Tape tape = new Tape();
    private final Act[] acts = new Act[MOST_ACTS];
    private int actCount;
    private int latestFault;
    private final Leave[] leaves = new Leave[MOST_LEAVES];
    private int leaveCount;
    private final Order order = new Order();
    private final Work[] works = new Work[MOST_WORKS];
    private int workCount;
    private final int[] costSteps = new int[MOST_CHOICES];
    private final int[] yieldSteps = new int[MOST_CHOICES];
    private final Cases cases = new Cases();
    private int today;
    private final int[] traced = new int[MOST_TRACED];
    private int tracedCount;
    private int latestFinding;

    public GradedHouses() {
        for (int k = 0; k < SHEETS; k++) {
            sheets[k] = new Sheet();
        }
    }

    // ---- sheets

    public int sheet(int sheet, int lane, int n) {
        Sheet laid = sheetAt(sheet);
        if (laid == null || !within(lane, BYTES, INTS) || n > MOST_ITEMS) {
            return BAD;
        }
        if (n < 0) {
            return found(BELOW_NONE);
        }
        laid.lay(lane, n);
        return fine(n);
    }

    public int set(int sheet, int i, int v) {
        Sheet written = sheetAt(sheet);
        if (written == null) {
            return BAD;
        }
        if (!written.present) {
            return found(MISSING);
        }
        if (!written.holds(i, 1)) {
            return found(NO_PLACE);
        }
        return fine(written.write(i, v));
    }

    public int copy(int a, int i, int b, int j, int n) {
        Sheet source = sheetAt(a);
        Sheet target = sheetAt(b);
        if (source == null || target == null) {
            return BAD;
        }
        if (!source.present || !target.present) {
            return found(MISSING);
        }
        if (source.lane != target.lane) {
            return found(TWO_LANES);
        }
        if (!source.holds(i, n) || !target.holds(j, n)) {
            return found(NO_PLACE);
        }
        System.arraycopy(source.items, i, target.items, j, n);
        return fine(n);
    }

    public int drop(int sheet) {
        Sheet dropped = sheetAt(sheet);
        if (dropped == null) {
            return BAD;
        }
        if (!dropped.present) {
            return found(MISSING);
        }
        dropped.present = false;
        return fine(dropped.size);
    }

    // ---- houses, parts

    public int house() {
        return houses.build();
    }

    public int list(int house, int grade, int day, int entered) {
        if (!houses.has(house) || !isGrade(grade) || !isDay(day) || !isDay(entered) || entered < day) {
            return BAD;
        }
        return houses.enlist(new Listing(house, grade, day, entered));
    }

    public int grade(int house, int day, int known) {
        if (!houses.has(house) || !isDay(day) || !isDay(known)) {
            return BAD;
        }
        return houses.gradeOf(house, day, known);
    }

    public int part(int house, int sort, int year, int worth) {
        if (!houses.has(house) || !within(sort, 0, LAST_SORT) || !within(year, 1000, 1999)
                || !within(worth, 0, 10000)) {
            return BAD;
        }
        if (partCount >= MOST_PARTS) {
            return FULL;
        }
        parts[partCount] = new Part(house, sort, year, worth);
        return partCount++;
    }

    public int told(int part, int what) {
        Part one = partAt(part);
        if (one == null) {
            return BAD;
        }
        switch (what) {
            case 0: return one.house;
            case 1: return one.sort;
            case 2: return one.year;
            case 3: return one.worth;
            case 4: return one.ageOn(today);
            case 5: return gradeOn(one, today);
            default: return BAD;
        }
    }

    // ---- acts, leaves, works

    public int feed(long w, int n) {
        if (!within(n, 1, 8)) {
            return BAD;
        }
        return tape.append(w, n);
    }

    public int acts() {
        int read = readActs();
        int fault = tape.fault;
        tape.length = 0;
        if (fault != 0) {
            latestFault = fault;
            return FAULTS - tape.faultPlace;
        }
        actCount = read;
        return actCount;
    }

    public int fault() {
        return latestFault;
    }

    public int needs(int part, int work, int day, int what) {
        Part one = partAt(part);
        if (one == null || !isWork(work) || !isDay(day) || !within(what, 0, 1)) {
            return BAD;
        }
        if (what == 0) {
            return oneIf(needsLeave(one, work, day));
        }
        return decidingAct(one, work, day);
    }

    public int leave(int part, int work, int from, int to, int conditions) {
        if (partAt(part) == null || !isWork(work) || !isDay(from) || !isDay(to) || to < from
                || !within(conditions, 0, SETS_OF_CONDITIONS - 1)) {
            return BAD;
        }
        if (leaveCount >= MOST_LEAVES) {
            return FULL;
        }
        leaves[leaveCount] = new Leave(part, work, from, to, conditions);
        return leaveCount++;
    }

    public int prove(int leave, int condition, int day) {
        Leave one = leaveAt(leave);
        if (one == null || !isCondition(condition) || !isDay(day)) {
            return BAD;
        }
        if (!holdsBit(one.conditions, condition) || holdsBit(one.proven, condition)) {
            return STATE;
        }
        one.bringProof(condition, day);
        return 1;
    }

    public int ahead(int a, int b) {
        if (!isCondition(a) || !isCondition(b) || a == b) {
            return BAD;
        }
        return order.rule(a, b);
    }

    public int conditions(int leave, int what) {
        Leave one = leaveAt(leave);
        if (one == null) {
            return BAD;
        }
        switch (what) {
            case 0: return Integer.bitCount(one.conditions);
            case 1: return Integer.bitCount(one.proven);
            case 2: return order.rows(one.conditions);
            case 3: return order.bar(one.conditions);
            default: return BAD;
        }
    }

    public int row(int leave, int i) {
        Leave one = leaveAt(leave);
        if (one == null) {
            return BAD;
        }
        return order.placed(one.conditions, i);
    }

    public int work(int part, int work, int day) {
        if (partAt(part) == null || !isWork(work) || !isDay(day)) {
            return BAD;
        }
        if (workCount >= MOST_WORKS) {
            return FULL;
        }
        works[workCount] = new Work(part, work, day);
        return workCount++;
    }

    public int judged(int work, int what) {
        Work done = workAt(work);
        if (done == null || !within(what, 0, 1)) {
            return BAD;
        }
        int verdict = verdictOn(done);
        return what == 0 ? verdict : oneIf(isPutBackDue(done, verdict));
    }

    // ---- sums, cases

    public int grant(int cost, int grade) {
        if (!within(cost, 0, 100000) || !isGrade(grade)) {
            return BAD;
        }
        return grantFor(cost, grade);
    }

    public int fund(int sheet, int i, int n, int fund, int what) {
        Sheet roofs = sheetAt(sheet);
        if (roofs == null || !within(n, 1, MOST_CHOICES) || !within(fund, 0, 500) || !within(what, 0, 1)) {
            return BAD;
        }
        if (!roofs.present) {
            return found(MISSING);
        }
        if (!roofs.holds(i, 2 * n)) {
            return found(NO_PLACE);
        }
        if (!roofs.hasPairs(i, n, 100)) {
            return BAD;
        }
        int best = worthiestSet(roofs, i, n, fund);
        return fine(what == 0 ? best : roofs.sumOver(best, i + 1));
    }

    public int use(int sheet, int i, int n, int need, int grade, int worth, int what) {
        Sheet plans = sheetAt(sheet);
        if (plans == null || !within(n, 1, MOST_CHOICES) || !within(need, 0, 5000) || !isGrade(grade)
                || !within(worth, 0, 100000) || !within(what, 0, 2)) {
            return BAD;
        }
        if (!plans.present) {
            return found(MISSING);
        }
        if (!plans.holds(i, 2 * n)) {
            return found(NO_PLACE);
        }
        if (!plans.hasPairs(i, n, 1000)) {
            return BAD;
        }
        int best = cheapestSet(plans, i, n, need);
        if (best == NONE || what == 0) {
            return fine(best);
        }
        int cost = plans.sumOver(best, i);
        return fine(what == 1 ? cost : hardship(cost, grade, worth));
    }

    public int enter(int marks, int how, int day) {
        if (!isMarks(marks) || !within(how, 0, 1) || !isDay(day)) {
            return BAD;
        }
        return cases.keep(new Case(marks, how, day));
    }

    public int weight(int mark, int v) {
        return cases.weigh(mark, v);
    }

    public int like(int marks, int day, int i, int what) {
        if (!isMarks(marks) || !isDay(day) || !within(what, 0, 2)) {
            return BAD;
        }
        cases.measure(marks, day);
        int number = cases.ranked(i);
        Case one = cases.caseAt(number);
        if (one == null) {
            return NONE;
        }
        switch (what) {
            case 0: return number;
            case 1: return one.far;
            default: return one.marks ^ marks;
        }
    }

    public int binds(int marks, int day) {
        if (!isMarks(marks) || !isDay(day)) {
            return BAD;
        }
        cases.measure(marks, day);
        return cases.binding();
    }

    public int sight(int sheet, int x1, int y1, int x2, int y2) {
        Sheet ground = sheetAt(sheet);
        boolean alike = x1 == x2 && y1 == y2;
        if (ground == null || !isPlace(x1, y1) || !isPlace(x2, y2) || alike) {
            return BAD;
        }
        if (!ground.present) {
            return found(MISSING);
        }
        if (!ground.holds(0, SIDE * SIDE)) {
            return found(NO_PLACE);
        }
        if (!ground.hasHeights()) {
            return BAD;
        }
        return fine(oneIf(isSeen(ground, x1, y1, x2, y2)));
    }

    // ---- asked

    public int day(int day) {
        if (!isDay(day)) {
            return BAD;
        }
        int before = today;
        today = day;
        return before;
    }

    public int kind(int part) {
        Part one = partAt(part);
        return one == null ? BAD : kindOn(one, today);
    }

    public int as(int part, int kind) {
        Part one = partAt(part);
        if (one == null || !within(kind, PLAIN, YOUNG)) {
            return BAD;
        }
        if (!isOfKind(kindOn(one, today), kind)) {
            return found(NOT_THAT_KIND);
        }
        return fine(one.year);
    }

    public int ask(int part, int what) {
        Part one = partAt(part);
        if (one == null || !within(what, 0, 1)) {
            return BAD;
        }
        tracedCount = 0;
        return what == 0 ? askSize(one) : askMark(one);
    }

    public int trace(int i) {
        return i >= 0 && i < tracedCount && i < MOST_TRACED ? traced[i] : NONE;
    }

    public int count(int what) {
        switch (what) {
            case 0: return presentSheets();
            case 1: return houses.built;
            case 2: return partCount;
            case 3: return partsOfKind(KEPT);
            case 4: return partsOfKind(PRIME);
            case 5: return actCount;
            case 6: return leaveCount;
            case 7: return workCount;
            case 8: return cases.entered;
            case 9: return tape.length;
            default: return BAD;
        }
    }

    public int status() {
        return latestFinding;
    }

    // ---- what a number may be

    private static boolean within(int v, int least, int most) {
        return v >= least && v <= most;
    }

    private static boolean isDay(int day) {
        return within(day, 0, LAST_DAY);
    }

    private static boolean isGrade(int grade) {
        return within(grade, 0, LOWEST_GRADE);
    }

    private static boolean isWork(int work) {
        return within(work, 0, LAST_WORK);
    }

    private static boolean isCondition(int condition) {
        return within(condition, 0, CONDITIONS - 1);
    }

    private static boolean isMarks(int marks) {
        return within(marks, 0, SETS_OF_MARKS - 1);
    }

    private static boolean isPlace(int x, int y) {
        return within(x, 0, SIDE - 1) && within(y, 0, SIDE - 1);
    }

    private static boolean holdsBit(int bits, int bit) {
        return (bits >> bit & 1) != 0;
    }

    private static int oneIf(boolean holds) {
        return holds ? 1 : 0;
    }

    private static int yearOf(int day) {
        return FIRST_YEAR + day / DAYS_OF_A_YEAR;
    }

    // ---- what is there, or null

    private Sheet sheetAt(int number) {
        return within(number, 0, SHEETS - 1) ? sheets[number] : null;
    }

    private Part partAt(int number) {
        return number >= 0 && number < partCount && number < MOST_PARTS ? parts[number] : null;
    }

    private Leave leaveAt(int number) {
        return number >= 0 && number < leaveCount && number < MOST_LEAVES ? leaves[number] : null;
    }

    private Work workAt(int number) {
        return number >= 0 && number < workCount && number < MOST_WORKS ? works[number] : null;
    }

    // ---- findings

    private int found(int finding) {
        latestFinding = finding;
        return FINDINGS - finding;
    }

    private int fine(int answer) {
        latestFinding = 0;
        return answer;
    }

    // ---- kinds

    private int gradeOn(Part part, int day) {
        return houses.gradeOf(part.house, day, day);
    }

    private int kindOn(Part part, int day) {
        int grade = gradeOn(part, day);
        int age = part.ageOn(day);
        if (grade != 0 && age >= YEARS_OF_KEPT) {
            return grade == HIGHEST_GRADE ? PRIME : KEPT;
        }
        return age < YEARS_OF_GROWN ? YOUNG : PLAIN;
    }

    private static boolean isOfKind(int told, int kind) {
        return kind == PLAIN || kind == told || kind == KEPT && told == PRIME;
    }

    private int partsOfKind(int kind) {
        int n = 0;
        for (int k = 0; k < partCount; k++) {
            Part one = partAt(k);
            if (one != null && isOfKind(kindOn(one, today), kind)) {
                n++;
            }
        }
        return n;
    }

    private int presentSheets() {
        int n = 0;
        for (int k = 0; k < SHEETS; k++) {
            Sheet one = sheetAt(k);
            if (one != null && one.present) {
                n++;
            }
        }
        return n;
    }

    // ---- acts and works

    /**
     * Reads the whole tape and answers how many acts there would be then. New acts stand behind
     * actCount until the caller knows that there was no fault, so that none comes with one.
     */
    private int readActs() {
        int n = actCount;
        tape.begin();
        for (int k = 0; k <= MOST_ACTS && !tape.isOver(); k++) {
            if (n >= MOST_ACTS) {
                tape.refuseWord("act", ONE_ACT_TOO_MANY);
            } else {
                acts[n] = readAct();
                n++;
            }
        }
        return n;
    }

    /** Null with a fault: from the first one on, what is taken from the tape means nothing. */
    private Act readAct() {
        tape.takeWord("act");
        int day = tape.takeNumber(0, LAST_DAY);
        tape.takeWord("grade");
        int grade = tape.takeNumber(HIGHEST_GRADE, LOWEST_GRADE);
        int sort = tape.takeWord(SORT_WORDS);
        int work = tape.takeWord(WORK_WORDS);
        int older = 0;
        if (tape.seesWord("older")) {
            tape.takeWord("older");
            older = tape.takeNumber(0, 999);
        }
        boolean needsLeave = tape.takeWord(END_WORDS) == 0;
        tape.takeSign();
        return tape.fault != 0 ? null : new Act(day, grade, sort, work, older, needsLeave);
    }

    private int decidingAct(Part part, int work, int day) {
        int grade = gradeOn(part, day);
        int latest = -1;
        int deciding = NONE;
        for (int k = 0; k < actCount && k < MOST_ACTS; k++) {
            Act act = acts[k];
            if (act != null && act.day <= day && act.day >= latest && act.grade == grade
                    && act.fits(part, work, day)) {
                latest = act.day;
                deciding = k;
            }
        }
        return deciding;
    }

    private boolean needsLeave(Part part, int work, int day) {
        int deciding = decidingAct(part, work, day);
        if (deciding < 0 || deciding >= MOST_ACTS) {
            return false;
        }
        Act act = acts[deciding];
        return act != null && act.needsLeave;
    }

    private int verdictOn(Work done) {
        Part part = partAt(done.part);
        if (part == null || !needsLeave(part, done.work, done.day)) {
            return FREE;
        }
        int verdict = WITHOUT;
        for (int k = 0; k < leaveCount; k++) {
            Leave one = leaveAt(k);
            if (one != null && one.part == done.part && one.work == done.work) {
                verdict = Math.min(verdict, one.verdictFor(done.day));
            }
        }
        return verdict;
    }

    private boolean isPutBackDue(Work done, int verdict) {
        Part part = partAt(done.part);
        if (verdict != EARLY || part == null) {
            return verdict == WITHOUT;
        }
        return isOfKind(kindOn(part, done.day), KEPT);
    }

    // ---- sums

    private static int grantFor(int cost, int grade) {
        switch (grade) {
            case 1: return Math.min(cost / 2, 30000);
            case 2: return Math.min(cost / 3, 15000);
            case 3: return Math.min(cost / 10, 5000);
            default: return 0;
        }
    }

    private static int hardship(int cost, int grade, int worth) {
        return Math.max(0, cost - grantFor(cost, grade) - worth);
    }

    /**
     * By how much the sums over a set are more than those over the set one number below it: its
     * least member has come in, and all below that one have gone. So the steps hang on the least
     * member alone, and going through all sets needs no sum of its own for each.
     */
    private void laySteps(Sheet pairs, int i, int n) {
        int costs = 0;
        int yields = 0;
        for (int k = 0; k < n && k < MOST_CHOICES; k++) {
            int cost = pairs.item(i + 2 * k);
            int brings = pairs.item(i + 2 * k + 1);
            costSteps[k] = cost - costs;
            yieldSteps[k] = brings - yields;
            costs += cost;
            yields += brings;
        }
    }

    private static int leastMember(int set) {
        return Math.min(Integer.bitCount((set & -set) - 1), MOST_CHOICES - 1);
    }

    /** Sets are tried by their numbers, so that of several as good ones the least stays. */
    private int worthiestSet(Sheet roofs, int i, int n, int fund) {
        laySteps(roofs, i, n);
        int cost = 0;
        int worth = 0;
        int best = 0;
        int bestWorth = 0;
        for (int set = 1; set < 1 << n; set++) {
            int least = leastMember(set);
            cost += costSteps[least];
            worth += yieldSteps[least];
            if (cost <= fund && worth > bestWorth) {
                best = set;
                bestWorth = worth;
            }
        }
        return best;
    }

    private int cheapestSet(Sheet plans, int i, int n, int need) {
        laySteps(plans, i, n);
        int cost = 0;
        int brings = 0;
        int best = need == 0 ? 0 : NONE;
        int bestCost = 0;
        for (int set = 1; set < 1 << n; set++) {
            int least = leastMember(set);
            cost += costSteps[least];
            brings += yieldSteps[least];
            if (brings >= need && (best == NONE || cost < bestCost)) {
                best = set;
                bestCost = cost;
            }
        }
        return best;
    }

    // ---- sight

    private static boolean isSeen(Sheet ground, int x1, int y1, int x2, int y2) {
        int n = Math.max(Math.abs(x2 - x1), Math.abs(y2 - y1));
        int eye = ground.height(x1, y1) + 2;
        int end = ground.height(x2, y2);
        for (int k = 1; k < n; k++) {
            int x = x1 + rounded((x2 - x1) * k, n);
            int y = y1 + rounded((y2 - y1) * k, n);
            if (ground.height(x, y) * n > eye * (n - k) + end * k) {
                return false;
            }
        }
        return true;
    }

    private static int rounded(int v, int n) {
        return n <= 0 ? 0 : Math.floorDiv(2 * v + n, 2 * n);
    }

    // ---- asks

    private void begin(int body) {
        if (tracedCount < MOST_TRACED) {
            traced[tracedCount] = body;
            tracedCount++;
        }
    }

    private int askSize(Part part) {
        switch (kindOn(part, today)) {
            case PRIME: return primeSize(part);
            case KEPT: return keptSize(part);
            case YOUNG: return youngSize(part);
            default: return lentSize(part);
        }
    }

    private int lentSize(Part part) {
        begin(10);
        return part.worth;
    }

    private int keptSize(Part part) {
        begin(11);
        return lentSize(part) + part.ageOn(today);
    }

    private int primeSize(Part part) {
        begin(12);
        return keptSize(part) * 2;
    }

    private int youngSize(Part part) {
        begin(13);
        return lentSize(part) / 2;
    }

    private int askMark(Part part) {
        switch (kindOn(part, today)) {
            case PRIME: return primeMark(part);
            case KEPT: return keptMark(part);
            case YOUNG: return youngMark(part);
            default: return lentMark(part);
        }
    }

    private int lentMark(Part part) {
        begin(20);
        return part.sort;
    }

    private int keptMark(Part part) {
        begin(21);
        return lentMark(part) + 10 * gradeOn(part, today);
    }

    private int primeMark(Part part) {
        begin(22);
        return keptMark(part) + askSize(part);
    }

    private int youngMark(Part part) {
        begin(23);
        return lentMark(part) + askSize(part);
    }

    /** A sheet of items. Its row of items is made once and used again by each sheet laid here. */
    private static final class Sheet {
        private final int[] items = new int[MOST_ITEMS];
        private boolean present;
        private int lane;
        private int size;

        private void lay(int newLane, int newSize) {
            Arrays.fill(items, 0);
            present = true;
            lane = newLane;
            size = newSize;
        }

        /** Subtracts rather than adds, so that no sum can wrap around. */
        private boolean holds(int from, int n) {
            return from >= 0 && n >= 0 && n <= size && from <= size - n;
        }

        private int item(int i) {
            return i >= 0 && i < size && i < MOST_ITEMS ? items[i] : 0;
        }

        private int write(int i, int v) {
            if (i >= 0 && i < size && i < MOST_ITEMS) {
                items[i] = narrowed(v);
            }
            return item(i);
        }

        private int narrowed(int v) {
            switch (lane) {
                case BYTES: return (byte) v;
                case SHORTS: return (short) v;
                default: return v;
            }
        }

        /** Whether the n pairs from i on are a cost of 1 to the most, and 0 to 1000. */
        private boolean hasPairs(int i, int n, int mostCost) {
            for (int k = 0; k < n; k++) {
                if (!within(item(i + 2 * k), 1, mostCost) || !within(item(i + 2 * k + 1), 0, 1000)) {
                    return false;
                }
            }
            return true;
        }

        /** The sum, over the members k of a set, of the items from + 2 k. */
        private int sumOver(int set, int from) {
            int sum = 0;
            for (int k = 0; k < MOST_CHOICES; k++) {
                if (holdsBit(set, k)) {
                    sum += item(from + 2 * k);
                }
            }
            return sum;
        }

        private boolean hasHeights() {
            for (int k = 0; k < SIDE * SIDE; k++) {
                if (!within(item(k), 0, 100)) {
                    return false;
                }
            }
            return true;
        }

        private int height(int x, int y) {
            return item(x + SIDE * y);
        }
    }

    /** The houses, and the list of their grades in the order in which it was told. */
    private static final class Houses {
        private final Listing[] listings = new Listing[MOST_LISTINGS];
        private int listed;
        private int built;

        private boolean has(int number) {
            return number >= 0 && number < built;
        }

        private int build() {
            if (built >= MOST_HOUSES) {
                return FULL;
            }
            return built++;
        }

        private int enlist(Listing one) {
            if (listed >= MOST_LISTINGS) {
                return FULL;
            }
            listings[listed] = one;
            listed++;
            return listed;
        }

        private int gradeOf(int house, int day, int known) {
            int latest = -1;
            int grade = 0;
            for (int k = 0; k < listed && k < MOST_LISTINGS; k++) {
                Listing one = listings[k];
                if (one != null && one.house == house && one.entered <= known
                        && one.day <= day && one.day >= latest) {
                    latest = one.day;
                    grade = one.grade;
                }
            }
            return grade;
        }
    }

    /** A row of the list. */
    private static final class Listing {
        private final int house;
        private final int grade;
        private final int day;
        private final int entered;

        private Listing(int house, int grade, int day, int entered) {
            this.house = house;
            this.grade = grade;
            this.day = day;
            this.entered = entered;
        }
    }

    private static final class Part {
        private final int house;
        private final int sort;
        private final int year;
        private final int worth;

        private Part(int house, int sort, int year, int worth) {
            this.house = house;
            this.sort = sort;
            this.year = year;
            this.worth = worth;
        }

        private int ageOn(int day) {
            return yearOf(day) - year;
        }
    }

    private static final class Act {
        private final int day;
        private final int grade;
        private final int sort;
        private final int work;
        private final int older;
        private final boolean needsLeave;

        private Act(int day, int grade, int sort, int work, int older, boolean needsLeave) {
            this.day = day;
            this.grade = grade;
            this.sort = sort;
            this.work = work;
            this.older = older;
            this.needsLeave = needsLeave;
        }

        private boolean fits(Part part, int asked, int on) {
            return (sort == ANY_SORT || sort == part.sort) && work == asked && part.ageOn(on) >= older;
        }
    }

    private static final class Leave {
        private final int part;
        private final int work;
        private final int from;
        private final int to;
        private final int conditions;
        private final int[] provenOn = new int[CONDITIONS];
        private int proven;

        private Leave(int part, int work, int from, int to, int conditions) {
            this.part = part;
            this.work = work;
            this.from = from;
            this.to = to;
            this.conditions = conditions;
        }

        private void bringProof(int condition, int day) {
            if (isCondition(condition)) {
                provenOn[condition] = day;
                proven |= 1 << condition;
            }
        }

        private boolean isMetBy(int day) {
            if (proven != conditions) {
                return false;
            }
            for (int c = 0; c < CONDITIONS; c++) {
                if (holdsBit(conditions, c) && provenOn[c] > day) {
                    return false;
                }
            }
            return true;
        }

        /** What this leave alone makes of a work; the least number over all leaves is the verdict. */
        private int verdictFor(int day) {
            if (day > to) {
                return PAST;
            }
            if (day < from) {
                return EARLY;
            }
            return isMetBy(day) ? LAWFUL : UNMET;
        }
    }

    private static final class Work {
        private final int part;
        private final int work;
        private final int day;

        private Work(int part, int work, int day) {
            this.part = part;
            this.work = work;
            this.day = day;
        }
    }

    /** The rules of what comes ahead of what, kept as the set that each condition waits for. */
    private static final class Order {
        private final int[] waitsFor = new int[CONDITIONS];
        private final int[] orders = new int[SETS_OF_CONDITIONS];
        private int rules;

        private int rule(int a, int b) {
            if (rules >= MOST_RULES) {
                return FULL;
            }
            if (isCondition(b)) {
                waitsFor[b] |= 1 << a;
                rules++;
            }
            return rules;
        }

        private boolean mayComeNext(int condition, int left) {
            return holdsBit(left, condition) && (waitsFor[condition] & left) == 0;
        }

        private int leastNext(int left) {
            for (int c = 0; c < CONDITIONS; c++) {
                if (mayComeNext(c, left)) {
                    return c;
                }
            }
            return NONE;
        }

        private int leftOver(int conditions) {
            int left = conditions;
            for (int k = 0; k < CONDITIONS; k++) {
                int next = leastNext(left);
                if (next == NONE) {
                    return left;
                }
                left &= ~(1 << next);
            }
            return left;
        }

        private int bar(int conditions) {
            int left = leftOver(conditions);
            for (int c = 0; c < CONDITIONS; c++) {
                if (holdsBit(left, c)) {
                    return c;
                }
            }
            return NONE;
        }

        /** The orders of a set are those of what is left behind each one that may come first. */
        private int rows(int conditions) {
            orders[0] = 1;
            for (int left = 1; left <= conditions && left < SETS_OF_CONDITIONS; left++) {
                if ((left & ~conditions) == 0) {
                    orders[left] = ordersOf(left);
                }
            }
            return within(conditions, 0, SETS_OF_CONDITIONS - 1) ? orders[conditions] : 0;
        }

        private int ordersOf(int left) {
            int n = 0;
            for (int c = 0; c < CONDITIONS; c++) {
                if (mayComeNext(c, left)) {
                    n += orders[left & ~(1 << c)];
                }
            }
            return n;
        }

        private int placed(int conditions, int i) {
            if (i < 0 || i >= Integer.bitCount(conditions) || leftOver(conditions) != 0) {
                return NONE;
            }
            int left = conditions;
            for (int k = 0; k < i && k < CONDITIONS; k++) {
                left &= ~(1 << leastNext(left));
            }
            return leastNext(left);
        }
    }

    private static final class Case {
        private final int marks;
        private final int how;
        private final int day;
        private boolean counts;
        private int far;

        private Case(int marks, int how, int day) {
            this.marks = marks;
            this.how = how;
            this.day = day;
        }
    }

    /** The cases and the weights. A measure of all cases stands until the next one. */
    private static final class Cases {
        private final Case[] all = new Case[MOST_CASES];
        private final int[] weights = new int[MARKS];
        private int entered;

        private Cases() {
            Arrays.fill(weights, 1);
        }

        private int keep(Case one) {
            if (entered >= MOST_CASES) {
                return FULL;
            }
            all[entered] = one;
            return entered++;
        }

        private int weigh(int mark, int v) {
            if (!within(mark, 0, MARKS - 1) || !within(v, 1, 9)) {
                return BAD;
            }
            int before = weights[mark];
            weights[mark] = v;
            return before;
        }

        private Case caseAt(int number) {
            return number >= 0 && number < entered && number < MOST_CASES ? all[number] : null;
        }

        private void measure(int marks, int day) {
            for (int k = 0; k < entered; k++) {
                Case one = caseAt(k);
                if (one != null) {
                    one.counts = one.day <= day;
                    one.far = weightOf(one.marks ^ marks);
                }
            }
        }

        private int weightOf(int marks) {
            int sum = 0;
            for (int m = 0; m < MARKS; m++) {
                if (holdsBit(marks, m)) {
                    sum += weights[m];
                }
            }
            return sum;
        }

        /** The number of the measured case that has just i others ahead of it. */
        private int ranked(int i) {
            for (int k = 0; k < entered; k++) {
                Case one = caseAt(k);
                if (one != null && one.counts && liker(k, one) == i) {
                    return k;
                }
            }
            return NONE;
        }

        private int liker(int number, Case than) {
            int n = 0;
            for (int k = 0; k < entered; k++) {
                Case one = caseAt(k);
                if (one != null && one.counts && isLiker(one, than, k > number)) {
                    n++;
                }
            }
            return n;
        }

        private static boolean isLiker(Case one, Case than, boolean toldLater) {
            if (one.far != than.far) {
                return one.far < than.far;
            }
            return one.day != than.day ? one.day > than.day : toldLater;
        }

        private int binding() {
            Case first = caseAt(ranked(0));
            if (first == null) {
                return NONE;
            }
            int lead = 0;
            for (int k = 0; k < entered; k++) {
                Case one = caseAt(k);
                if (one != null && one.counts && one.far == first.far) {
                    lead += one.how == first.how ? 1 : -1;
                }
            }
            return lead >= 0 ? first.how : 1 - first.how;
        }
    }

    /** The tape, and its reader: it goes from token to token up to the end or the first fault. */
    private static final class Tape {
        private static final int END = 0, NAME = 1, NUMBER = 2, SIGN = 3, NO_TOKEN = 4;

        private final char[] bytes = new char[MOST_BYTES];
        private int length;
        private int token;
        private int start;
        private int next;
        private int fault;
        private int faultPlace;

        private int append(long w, int n) {
            if (n > MOST_BYTES - length) {
                return FULL;
            }
            for (int k = n - 1; k >= 0; k--) {
                bytes[length] = (char) (w >> 8 * k & 255);
                length++;
            }
            return length;
        }

        private void begin() {
            fault = 0;
            faultPlace = 0;
            next = 0;
            advance();
        }

        private boolean isOver() {
            return fault != 0 || token == END;
        }

        private char byteAt(int i) {
            return i >= 0 && i < length && i < MOST_BYTES ? bytes[i] : 0;
        }

        private static boolean isLetter(char c) {
            return c >= 'a' && c <= 'z';
        }

        private static boolean isFigure(char c) {
            return c >= '0' && c <= '9';
        }

        private void advance() {
            start = next;
            while (start < length && (byteAt(start) == ' ' || byteAt(start) == '\n')) {
                start++;
            }
            next = start;
            if (start >= length) {
                token = END;
            } else if (isLetter(byteAt(start))) {
                scanName();
            } else if (isFigure(byteAt(start))) {
                scanNumber();
            } else {
                token = byteAt(start) == ';' ? SIGN : NO_TOKEN;
                next = start + 1;
            }
        }

        private void scanName() {
            token = NAME;
            while (next < length && isLetter(byteAt(next))) {
                next++;
            }
        }

        private void scanNumber() {
            while (next < length && isFigure(byteAt(next))) {
                next++;
            }
            token = next - start <= MOST_FIGURES ? NUMBER : NO_TOKEN;
        }

        private void refuse(int number) {
            if (fault == 0) {
                fault = number;
                faultPlace = start;
            }
        }

        /** The place of the name that is read among words with blanks between; below 0 without. */
        private int placeAmong(String words) {
            if (token != NAME) {
                return NONE;
            }
            int place = 0;
            int from = 0;
            for (int k = 0; k <= words.length(); k++) {
                if (k == words.length() || words.charAt(k) == ' ') {
                    if (isName(words, from, k)) {
                        return place;
                    }
                    place++;
                    from = k + 1;
                }
            }
            return NONE;
        }

        private boolean isName(String words, int from, int to) {
            if (to - from != next - start || from < 0 || to > words.length()) {
                return false;
            }
            for (int k = from; k < to; k++) {
                if (words.charAt(k) != byteAt(start + k - from)) {
                    return false;
                }
            }
            return true;
        }

        private boolean seesWord(String word) {
            return fault == 0 && placeAmong(word) >= 0;
        }

        private int takeWord(String words) {
            if (fault != 0) {
                return NONE;
            }
            int place = placeAmong(words);
            if (place < 0) {
                refuse(OUT_OF_PLACE);
            } else {
                advance();
            }
            return place;
        }

        /** For a word that could stand here, but one time too often. */
        private void refuseWord(String word, int number) {
            refuse(seesWord(word) ? number : OUT_OF_PLACE);
        }

        private int takeNumber(int least, int most) {
            if (fault != 0) {
                return NONE;
            }
            int value = token == NUMBER ? value() : NONE;
            if (token != NUMBER) {
                refuse(OUT_OF_PLACE);
            } else if (!within(value, least, most)) {
                refuse(WRONG_NUMBER);
            } else {
                advance();
            }
            return value;
        }

        private int value() {
            int value = 0;
            for (int k = start; k < next; k++) {
                value = 10 * value + (byteAt(k) - '0');
            }
            return value;
        }

        private void takeSign() {
            if (fault != 0) {
                return;
            }
            if (token == SIGN) {
                advance();
            } else {
                refuse(OUT_OF_PLACE);
            }
        }
    }
}
