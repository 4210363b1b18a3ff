import java.util.Random;

/**
 * Compares the class with PlainModel over runs of 512 calls, made from fixed seeds: mostly sound
 * numbers, with edges, wrong ones and the greatest and least of all ints among them.
 */
public final class ModelTest {
    private static final int RUNS = 1500, CALLS = 512;
    private static final int[] EDGES = {-1, 0, 1, Integer.MAX_VALUE, Integer.MIN_VALUE, 65536, -1000000};
    private static final String[] WORDS = {"act", "grade", "older", "needs", "free", ";", "window", "wall",
        "roof", "door", "floor", "any", "repair", "change", "remove", "paint", "7", "1000", "123456", "#"};

    private final Random random;
    private final GradedHouses x = new GradedHouses();
    private final PlainModel y = new PlainModel();
    private final int[] theme = new int[3];
    private final boolean narrow;
    private final boolean reads;
    private String text = "";
    private String call;

    private ModelTest(long seed) {
        random = new Random(seed);
        for (int k = 0; k < theme.length; k++) {
            theme[k] = random.nextInt(5);
        }
        narrow = random.nextBoolean();
        reads = random.nextInt(8) != 0;
        if (narrow) {
            theme[0] = 2;
            tellOneHouse();
        }
    }

    /** So that acts, leaves and works meet: a house in a grade with two parts, and few days. */
    private void tellOneHouse() {
        x.house();
        y.house();
        int grade = 1 + random.nextInt(3);
        x.list(0, grade, 0, 0);
        y.list(0, grade, 0, 0);
        for (int part = 0; part < 2; part++) {
            int year = 1590 + random.nextInt(60);
            x.part(0, part, year, 9);
            y.part(0, part, year, 9);
        }
        text = "act 0 grade " + grade + " any repair needs;act 0 grade " + grade + " any change needs;";
    }

    public static void main(String[] args) {
        int wrong = 0;
        for (int run = 0; run < RUNS && wrong < 10; run++) {
            ModelTest test = new ModelTest(run);
            for (int k = 0; k < CALLS; k++) {
                long both = test.step();
                int got = (int) (both >> 32);
                int want = (int) both;
                if (got != want) {
                    wrong++;
                    System.out.println("seed " + run + ", call " + k + ": " + test.call + " answered " + got + ", due is " + want);
                    break;
                }
            }
        }
        if (wrong > 0) {
            System.exit(1);
        }
    }

    /** A number from a to b, at times just outside or anything. */
    private int n(int a, int b) {
        int dice = random.nextInt(150);
        if (dice == 0) return EDGES[random.nextInt(EDGES.length)];
        if (dice == 1) return a - 1;
        if (dice == 2) return b + 1;
        if (dice < 6) return a;
        if (dice < 9) return b;
        return a + random.nextInt(b - a + 1);
    }

    private int day() {
        if (narrow && random.nextInt(8) != 0) return n(0, 40);
        int dice = random.nextInt(4);
        return dice == 0 ? n(0, 99999) : dice == 1 ? 365 * random.nextInt(273) + random.nextInt(2) : n(0, 60) * (dice == 2 ? 1 : 1500);
    }

    private int later(int day) {
        if (narrow) return day + n(0, 9);
        return random.nextInt(3) == 0 ? day : day + n(0, 400);
    }

    /** One that is there, most of the time. */
    private int one(int what) {
        if (narrow && what == 2 && random.nextInt(8) != 0) return n(0, 1);
        return n(0, Math.max(0, x.count(what) - 1));
    }

    private int items(int sheet) {
        return random.nextInt(3) == 0 ? n(-300, 300) : n(1, 100);
    }

    private String act() {
        StringBuilder s = new StringBuilder("act " + day() + " grade " + n(1, 3) + " " + WORDS[6 + (random.nextBoolean() ? 5 : random.nextInt(6))] + " " + WORDS[12 + random.nextInt(4)]);
        if (random.nextInt(3) == 0) {
            s.append(" older ").append(n(0, random.nextInt(5) == 0 ? 999 : 150));
        }
        s.append(random.nextInt(3) == 0 ? "\nfree" : " needs").append(random.nextBoolean() ? ";" : " ; ");
        if (random.nextInt(12) == 0) {
            int at = random.nextInt(s.length());
            s.insert(at, random.nextBoolean() ? " " + WORDS[random.nextInt(WORDS.length)] + " " : String.valueOf((char) random.nextInt(256)));
        }
        if (random.nextInt(25) == 0) {
            s.setLength(random.nextInt(s.length()));
        }
        return s.toString();
    }

    private long both(String name, int got, int want, long... args) {
        StringBuilder s = new StringBuilder(name).append('(');
        for (int k = 0; k < args.length; k++) {
            s.append(k == 0 ? "" : ", ").append(args[k]);
        }
        call = s.append(')').toString();
        return (long) got << 32 | want & 0xffffffffL;
    }

    private long step() {
        if (!text.isEmpty()) return feeding();
        int group = random.nextInt(3) == 0 ? random.nextInt(5) : theme[random.nextInt(theme.length)];
        switch (group) {
            case 0: return sheets();
            case 1: return houses();
            case 2: return acts();
            case 3: return sums();
            default: return asked();
        }
    }

    private long feeding() {
        int n = Math.min(text.length(), 1 + random.nextInt(8));
        long w = random.nextLong();
        for (int k = 0; k < n; k++) {
            w = w << 8 | text.charAt(k);
        }
        text = text.substring(n);
        return both("feed", x.feed(w, n), y.feed(w, n), w, n);
    }

    private long sheets() {
        int s = n(0, 3), i = n(0, 30), v = items(s), t = n(0, 3), j = n(0, 12), n = n(0, 30);
        switch (random.nextInt(10)) {
            case 0: n = random.nextInt(3) == 0 ? 100 : n(-1, 100); return both("sheet", x.sheet(s, t % 3, n), y.sheet(s, t % 3, n), s, t % 3, n);
            case 1: return both("drop", x.drop(s), y.drop(s), s);
            case 2: return both("status", x.status(), y.status());
            case 3: case 4: return both("copy", x.copy(s, i, t, j, n), y.copy(s, i, t, j, n), s, i, t, j, n);
            case 5: v = random.nextInt(); return both("set", x.set(s, i, v), y.set(s, i, v), s, i, v);
            default: return both("set", x.set(s, i, v), y.set(s, i, v), s, i, v);
        }
    }

    private long houses() {
        int h = one(1), d = day(), e = later(d), g = n(0, 3), s = n(0, 4), p = one(2);
        switch (random.nextInt(7)) {
            case 0: return both("house", x.house(), y.house());
            case 1: case 2: return both("list", x.list(h, g, d, e), y.list(h, g, d, e), h, g, d, e);
            case 3: e = random.nextBoolean() ? e : day(); return both("grade", x.grade(h, d, e), y.grade(h, d, e), h, d, e);
            case 4: case 5: {
                int year = random.nextBoolean() ? n(1550, 1750) : n(1000, 1999), w = n(0, 10000);
                return both("part", x.part(h, s, year, w), y.part(h, s, year, w), h, s, year, w);
            }
            default: return both("told", x.told(p, s), y.told(p, s), p, s);
        }
    }

    private long acts() {
        int p = one(2), w = n(0, narrow ? 1 : 3), d = day(), e = later(d), l = one(6), c = n(0, 7), b = n(0, 7);
        int what = n(0, 1), k = one(7), q = narrow ? n(0, 3) : random.nextInt(3) == 0 ? 255 : n(0, 255);
        c = narrow && random.nextBoolean() ? n(0, 1) : c;
        switch (random.nextInt(18)) {
            case 0: case 1: text = act(); return feeding();
            case 2: case 3: return reads ? both("acts", x.acts(), y.acts()) : both("count", x.count(9), y.count(9), 9);
            case 4: return both("fault", x.fault(), y.fault());
            case 5: case 6: return both("needs", x.needs(p, w, d, what), y.needs(p, w, d, what), p, w, d, what);
            case 7: case 8: return both("leave", x.leave(p, w, d, e, q), y.leave(p, w, d, e, q), p, w, d, e, q);
            case 9: case 10: return both("prove", x.prove(l, c, d), y.prove(l, c, d), l, c, d);
            case 11: return both("ahead", x.ahead(c, b), y.ahead(c, b), c, b);
            case 12: return both("conditions", x.conditions(l, c % 4), y.conditions(l, c % 4), l, c % 4);
            case 13: return both("row", x.row(l, c), y.row(l, c), l, c);
            case 14: case 15: return both("work", x.work(p, w, d), y.work(p, w, d), p, w, d);
            default: return both("judged", x.judged(k, what), y.judged(k, what), k, what);
        }
    }

    private long sums() {
        int s = n(0, 3), i = n(0, 30), n = n(1, random.nextInt(9) == 0 ? 12 : 6), what = n(0, 2), g = n(0, 3);
        int need = n(0, random.nextInt(4) != 0 ? 150 : 5000), worth = n(0, random.nextBoolean() ? 30 : 100000);
        int m = random.nextBoolean() ? n(0, 7) : n(0, 4095), d = day(), a = n(0, 9), b = n(0, 9);
        switch (random.nextInt(13)) {
            case 0: return both("grant", x.grant(worth, g), y.grant(worth, g), worth, g);
            case 1: case 2: what = n(0, 1); need = n(0, random.nextBoolean() ? 500 : 150); return both("fund", x.fund(s, i, n, need, what), y.fund(s, i, n, need, what), s, i, n, need, what);
            case 3: case 4: return both("use", x.use(s, i, n, need, g, worth, what), y.use(s, i, n, need, g, worth, what), s, i, n, need, g, worth, what);
            case 5: case 6: return both("enter", x.enter(m, what % 2, d), y.enter(m, what % 2, d), m, what % 2, d);
            case 7: need = n(0, 11); g = n(1, 9); return both("weight", x.weight(need, g), y.weight(need, g), need, g);
            case 8: case 9: return both("like", x.like(m, d, a, what), y.like(m, d, a, what), m, d, a, what);
            case 10: return both("binds", x.binds(m, d), y.binds(m, d), m, d);
            case 11: return heights(s);
            default: return both("sight", x.sight(s, a, b, i % 10, n), y.sight(s, a, b, i % 10, n), s, a, b, i % 10, n);
        }
    }

    /** A whole ground for sight, item by item, with a look at the last. */
    private long heights(int s) {
        int least = random.nextInt(20);
        x.sheet(s, 1, 100);
        y.sheet(s, 1, 100);
        for (int k = 0; k < 100; k++) {
            int v = random.nextInt(4) == 0 ? least + random.nextInt(9) : least;
            x.set(s, k, v);
            y.set(s, k, v);
        }
        int a = n(0, 9), b = n(0, 9), c = n(0, 9), d = n(0, 9);
        return both("sight", x.sight(s, a, b, c, d), y.sight(s, a, b, c, d), s, a, b, c, d);
    }

    private long asked() {
        int p = one(2), d = day(), k = n(0, 3), what = n(0, 1), i = n(0, 9);
        switch (random.nextInt(9)) {
            case 0: return both("day", x.day(d), y.day(d), d);
            case 1: return both("kind", x.kind(p), y.kind(p), p);
            case 2: case 3: return both("as", x.as(p, k), y.as(p, k), p, k);
            case 4: case 5: return both("ask", x.ask(p, what), y.ask(p, what), p, what);
            case 6: return both("trace", x.trace(i), y.trace(i), i);
            case 7: return both("count", x.count(i), y.count(i), i);
            default: return both("status", x.status(), y.status());
        }
    }
}
