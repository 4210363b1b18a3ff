import java.util.ArrayList;
import java.util.Comparator;
import java.util.List;
import java.util.regex.Matcher;
import java.util.regex.Pattern;

/**
 * The document written a second time, in the plainest way and with the whole Java library: orders
 * by trying all of them, sets by trying all of them, like cases by sorting. ModelTest compares.
 */
final class PlainModel {
    static final int NONE = -1000000, BAD = -1000001, STATE = -1000002, FULL = -1000003;
    private static final Pattern TOKEN = Pattern.compile("[a-z]+|[0-9]+|;|[^ \n]");
    private static final List<String> SORTS = List.of("window", "wall", "roof", "door", "floor", "any");
    private static final List<String> WORKS = List.of("repair", "change", "remove", "paint");

    private final long[][] items = new long[8][];
    private final int[] lanes = new int[8];
    private int houses;
    private final List<int[]> listings = new ArrayList<>();
    private final List<int[]> parts = new ArrayList<>();
    private final StringBuilder tape = new StringBuilder();
    private List<int[]> acts = new ArrayList<>();
    private int fault;
    private final List<int[]> leaves = new ArrayList<>();
    private final List<Integer[]> proofs = new ArrayList<>();
    private final List<int[]> rules = new ArrayList<>();
    private final List<int[]> works = new ArrayList<>();
    private final List<int[]> cases = new ArrayList<>();
    private final int[] weights = {1, 1, 1, 1, 1, 1, 1, 1, 1, 1, 1, 1};
    private int today;
    private final List<Integer> trace = new ArrayList<>();
    private int status;

    private static boolean in(long v, long a, long b) {
        return a <= v && v <= b;
    }

    private static boolean days(int... days) {
        for (int d : days) {
            if (d < 0 || d > 99999) {
                return false;
            }
        }
        return true;
    }

    private static boolean is(List<?> all, int k) {
        return k >= 0 && k < all.size();
    }

    private int find(int n) {
        status = n;
        return -1000010 - n;
    }

    private int ok(int v) {
        status = 0;
        return v;
    }

    int sheet(int s, int lane, int n) {
        if (!in(s, 0, 7) || !in(lane, 0, 2) || n > 100) return BAD;
        if (n < 0) return find(4);
        items[s] = new long[n];
        lanes[s] = lane;
        return ok(n);
    }

    int set(int s, int i, int v) {
        if (!in(s, 0, 7)) return BAD;
        if (items[s] == null) return find(1);
        if (i < 0 || i >= items[s].length) return find(2);
        int bits = 8 << lanes[s];
        items[s][i] = (long) v << 64 - bits >> 64 - bits;
        return ok((int) items[s][i]);
    }

    int copy(int a, int i, int b, int j, int n) {
        if (!in(a, 0, 7) || !in(b, 0, 7)) return BAD;
        if (items[a] == null || items[b] == null) return find(1);
        if (lanes[a] != lanes[b]) return find(5);
        if (i < 0 || j < 0 || n < 0 || (long) i + n > items[a].length || (long) j + n > items[b].length) return find(2);
        long[] were = items[a].clone();
        for (int k = 0; k < n; k++) {
            items[b][j + k] = were[i + k];
        }
        return ok(n);
    }

    int drop(int s) {
        if (!in(s, 0, 7)) return BAD;
        if (items[s] == null) return find(1);
        int n = items[s].length;
        items[s] = null;
        return ok(n);
    }

    int house() {
        return houses == 6 ? FULL : houses++;
    }

    int list(int house, int grade, int day, int entered) {
        if (!in(house, 0, houses - 1) || !in(grade, 0, 3) || !days(day, entered) || entered < day) return BAD;
        if (listings.size() == 30) return FULL;
        listings.add(new int[] {house, grade, day, entered});
        return listings.size();
    }

    private int gradeThen(int house, int day, int known) {
        int[] best = null;
        for (int[] row : listings) {
            if (row[0] == house && row[3] <= known && row[2] <= day && (best == null || row[2] >= best[2])) {
                best = row;
            }
        }
        return best == null ? 0 : best[1];
    }

    int grade(int house, int day, int known) {
        return !in(house, 0, houses - 1) || !days(day, known) ? BAD : gradeThen(house, day, known);
    }

    int part(int house, int sort, int year, int worth) {
        if (!in(house, 0, houses - 1) || !in(sort, 0, 4) || !in(year, 1000, 1999) || !in(worth, 0, 10000)) return BAD;
        if (parts.size() == 16) return FULL;
        parts.add(new int[] {house, sort, year, worth});
        return parts.size() - 1;
    }

    private int age(int part, int day) {
        return 1700 + day / 365 - parts.get(part)[2];
    }

    int told(int part, int what) {
        if (!is(parts, part) || !in(what, 0, 5)) return BAD;
        if (what == 4) return age(part, today);
        if (what == 5) return gradeThen(parts.get(part)[0], today, today);
        return parts.get(part)[what];
    }

    int feed(long w, int n) {
        if (!in(n, 1, 8)) return BAD;
        if (tape.length() + n > 500) return FULL;
        for (int k = 1; k <= n; k++) {
            tape.append((char) (w >>> 8 * (n - k) & 255));
        }
        return tape.length();
    }

    int acts() {
        String text = tape.toString();
        tape.setLength(0);
        List<String> tokens = new ArrayList<>();
        List<Integer> places = new ArrayList<>();
        Matcher m = TOKEN.matcher(text);
        while (m.find()) {
            tokens.add(m.group());
            places.add(m.start());
        }
        tokens.add("");
        places.add(text.length());
        List<int[]> all = new ArrayList<>(acts);
        int at = 0;
        while (!tokens.get(at).isEmpty()) {
            int[] act = new int[6];
            int step = 0;
            while (step < 9) {
                String t = tokens.get(at);
                boolean number = t.matches("[0-9]{1,5}");
                int v = number ? Integer.parseInt(t) : -1;
                int wrong = 0;
                int next = step + 1;
                switch (step) {
                    case 0 -> wrong = !t.equals("act") ? 1 : all.size() == 24 ? 3 : 0;
                    case 1 -> { wrong = number ? 0 : 1; act[0] = v; }
                    case 2 -> wrong = t.equals("grade") ? 0 : 1;
                    case 3 -> { wrong = !number ? 1 : in(v, 1, 3) ? 0 : 2; act[1] = v; }
                    case 4 -> { wrong = SORTS.contains(t) ? 0 : 1; act[2] = SORTS.indexOf(t); }
                    case 5 -> { wrong = WORKS.contains(t) ? 0 : 1; act[3] = WORKS.indexOf(t); }
                    case 6 -> {
                        wrong = t.equals("older") || t.equals("needs") || t.equals("free") ? 0 : 1;
                        act[5] = t.equals("needs") ? 1 : 0;
                        next = t.equals("older") ? 10 : 8;
                    }
                    default -> wrong = t.equals(";") ? 0 : 1;
                }
                if (next == 10 && wrong == 0) {
                    at++;
                    t = tokens.get(at);
                    wrong = !t.matches("[0-9]{1,5}") ? 1 : Integer.parseInt(t) > 999 ? 2 : 0;
                    if (wrong == 0) {
                        act[4] = Integer.parseInt(t);
                        at++;
                        t = tokens.get(at);
                        wrong = t.equals("needs") || t.equals("free") ? 0 : 1;
                        act[5] = t.equals("needs") ? 1 : 0;
                        next = 8;
                    }
                }
                if (wrong != 0) {
                    fault = wrong;
                    return -1000100 - places.get(at);
                }
                at++;
                step = next;
            }
            all.add(act);
        }
        acts = all;
        return acts.size();
    }

    int fault() {
        return fault;
    }

    private int says(int part, int work, int day) {
        int[] p = parts.get(part);
        int best = NONE;
        for (int k = 0; k < acts.size(); k++) {
            int[] a = acts.get(k);
            boolean fits = a[0] <= day && a[1] == gradeThen(p[0], day, day) && (a[2] == 5 || a[2] == p[1])
                    && a[3] == work && age(part, day) >= a[4];
            if (fits && (best == NONE || acts.get(best)[0] <= a[0])) {
                best = k;
            }
        }
        return best;
    }

    int needs(int part, int work, int day, int what) {
        if (!is(parts, part) || !in(work, 0, 3) || !days(day) || !in(what, 0, 1)) return BAD;
        int act = says(part, work, day);
        return what == 1 ? act : act == NONE ? 0 : acts.get(act)[5];
    }

    int leave(int part, int work, int from, int to, int conditions) {
        if (!is(parts, part) || !in(work, 0, 3) || !days(from, to) || to < from || !in(conditions, 0, 255)) return BAD;
        if (leaves.size() == 10) return FULL;
        leaves.add(new int[] {part, work, from, to, conditions});
        proofs.add(new Integer[8]);
        return leaves.size() - 1;
    }

    int prove(int leave, int condition, int day) {
        if (!is(leaves, leave) || !in(condition, 0, 7) || !days(day)) return BAD;
        if ((leaves.get(leave)[4] & 1 << condition) == 0 || proofs.get(leave)[condition] != null) return STATE;
        proofs.get(leave)[condition] = day;
        return 1;
    }

    int ahead(int a, int b) {
        if (!in(a, 0, 7) || !in(b, 0, 7) || a == b) return BAD;
        if (rules.size() == 30) return FULL;
        rules.add(new int[] {a, b});
        return rules.size();
    }

    private boolean keeps(List<Integer> row, int next) {
        for (int[] rule : rules) {
            if (rule[0] == next && row.contains(rule[1])) {
                return false;
            }
        }
        return true;
    }

    /** All orders, by numbers; a rule is broken when the one ahead comes behind the other. */
    private void rows(List<Integer> row, List<Integer> left, List<List<Integer>> all) {
        if (left.isEmpty()) {
            all.add(new ArrayList<>(row));
            return;
        }
        for (Integer next : left) {
            if (keeps(row, next)) {
                List<Integer> rest = new ArrayList<>(left);
                rest.remove(next);
                row.add(next);
                rows(row, rest, all);
                row.remove(row.size() - 1);
            }
        }
    }

    private List<Integer> asked(int leave) {
        List<Integer> all = new ArrayList<>();
        for (int c = 0; c < 8; c++) {
            if ((leaves.get(leave)[4] & 1 << c) != 0) {
                all.add(c);
            }
        }
        return all;
    }

    private int bar(int leave) {
        List<Integer> left = asked(leave);
        boolean again = true;
        while (again) {
            List<Integer> gone = new ArrayList<>();
            for (int c : left) {
                if (rules.stream().noneMatch(r -> r[1] == c && left.contains(r[0]))) {
                    gone.add(c);
                }
            }
            left.removeAll(gone);
            again = !gone.isEmpty();
        }
        return left.isEmpty() ? NONE : left.get(0);
    }

    int conditions(int leave, int what) {
        if (!is(leaves, leave) || !in(what, 0, 3)) return BAD;
        List<List<Integer>> all = new ArrayList<>();
        rows(new ArrayList<>(), asked(leave), all);
        int proven = 0;
        for (Integer day : proofs.get(leave)) {
            proven += day == null ? 0 : 1;
        }
        return what == 0 ? asked(leave).size() : what == 1 ? proven : what == 2 ? all.size()
                : all.isEmpty() ? bar(leave) : NONE;
    }

    int row(int leave, int i) {
        if (!is(leaves, leave)) return BAD;
        List<List<Integer>> all = new ArrayList<>();
        rows(new ArrayList<>(), asked(leave), all);
        return all.isEmpty() || !is(all.get(0), i) ? NONE : all.get(0).get(i);
    }

    int work(int part, int work, int day) {
        if (!is(parts, part) || !in(work, 0, 3) || !days(day)) return BAD;
        if (works.size() == 20) return FULL;
        works.add(new int[] {part, work, day});
        return works.size() - 1;
    }

    private boolean met(int leave, int day) {
        for (int c : asked(leave)) {
            Integer proven = proofs.get(leave)[c];
            if (proven == null || proven > day) {
                return false;
            }
        }
        return true;
    }

    private int judge(int[] w) {
        int act = says(w[0], w[1], w[2]);
        if (act == NONE || acts.get(act)[5] == 0) return 0;
        boolean has = false, lawful = false, past = false, early = false;
        for (int k = 0; k < leaves.size(); k++) {
            int[] l = leaves.get(k);
            if (l[0] == w[0] && l[1] == w[1]) {
                boolean now = in(w[2], l[2], l[3]);
                has |= now;
                lawful |= now && met(k, w[2]);
                past |= l[3] < w[2];
                early |= l[2] > w[2];
            }
        }
        return lawful ? 1 : has ? 2 : past ? 3 : early ? 4 : 5;
    }

    int judged(int work, int what) {
        if (!is(works, work) || !in(what, 0, 1)) return BAD;
        int[] w = works.get(work);
        int j = judge(w);
        if (what == 0) return j;
        int kind = kindThen(w[0], w[2]);
        return j == 5 || j == 4 && (kind == 1 || kind == 2) ? 1 : 0;
    }

    int grant(int cost, int grade) {
        if (!in(cost, 0, 100000) || !in(grade, 0, 3)) return BAD;
        return grade == 0 ? 0 : grade == 1 ? Math.min(30000, cost / 2) : grade == 2 ? Math.min(15000, cost / 3) : Math.min(5000, cost / 10);
    }

    /** -1: fine; else the answer that is due. */
    private int pairs(int s, int i, int n, int most) {
        if (items[s] == null) return find(1);
        if (i < 0 || i + 2L * n > items[s].length) return find(2);
        for (int k = 0; k < n; k++) {
            if (!in(items[s][i + 2 * k], 1, most) || !in(items[s][i + 2 * k + 1], 0, 1000)) return BAD;
        }
        return -1;
    }

    private int sum(int s, int from, int set) {
        int sum = 0;
        for (int k = 0; k < 12; k++) {
            sum += (set >> k & 1) == 0 ? 0 : (int) items[s][from + 2 * k];
        }
        return sum;
    }

    int fund(int s, int i, int n, int fund, int what) {
        if (!in(s, 0, 7) || !in(n, 1, 12) || !in(fund, 0, 500) || !in(what, 0, 1)) return BAD;
        int refused = pairs(s, i, n, 100);
        if (refused != -1) return refused;
        int best = 0;
        for (int set = 0; set < 1 << n; set++) {
            if (sum(s, i, set) <= fund && sum(s, i + 1, set) > sum(s, i + 1, best)) {
                best = set;
            }
        }
        return ok(what == 0 ? best : sum(s, i + 1, best));
    }

    int use(int s, int i, int n, int need, int grade, int worth, int what) {
        if (!in(s, 0, 7) || !in(n, 1, 12) || !in(need, 0, 5000) || !in(grade, 0, 3) || !in(worth, 0, 100000) || !in(what, 0, 2)) return BAD;
        int refused = pairs(s, i, n, 1000);
        if (refused != -1) return refused;
        int best = -1;
        for (int set = 0; set < 1 << n; set++) {
            if (sum(s, i + 1, set) >= need && (best < 0 || sum(s, i, set) < sum(s, i, best))) {
                best = set;
            }
        }
        if (best < 0) return ok(NONE);
        int cost = sum(s, i, best);
        return ok(what == 0 ? best : what == 1 ? cost : Math.max(0, cost - grant(cost, grade) - worth));
    }

    int enter(int marks, int how, int day) {
        if (!in(marks, 0, 4095) || !in(how, 0, 1) || !days(day)) return BAD;
        if (cases.size() == 16) return FULL;
        cases.add(new int[] {marks, how, day, cases.size()});
        return cases.size() - 1;
    }

    int weight(int mark, int v) {
        if (!in(mark, 0, 11) || !in(v, 1, 9)) return BAD;
        int was = weights[mark];
        weights[mark] = v;
        return was;
    }

    private int far(int marks, int others) {
        int far = 0;
        for (int m = 0; m < 12; m++) {
            far += (marks >> m & 1) == (others >> m & 1) ? 0 : weights[m];
        }
        return far;
    }

    private List<int[]> likes(int marks, int day) {
        List<int[]> all = new ArrayList<>();
        for (int[] c : cases) {
            if (c[2] <= day) {
                all.add(c);
            }
        }
        all.sort(Comparator.<int[]>comparingInt(c -> far(marks, c[0])).thenComparingInt(c -> -c[2]).thenComparingInt(c -> -c[3]));
        return all;
    }

    int like(int marks, int day, int i, int what) {
        if (!in(marks, 0, 4095) || !days(day) || !in(what, 0, 2)) return BAD;
        List<int[]> all = likes(marks, day);
        if (!is(all, i)) return NONE;
        int[] c = all.get(i);
        return what == 0 ? c[3] : what == 1 ? far(marks, c[0]) : (marks | c[0]) - (marks & c[0]);
    }

    int binds(int marks, int day) {
        if (!in(marks, 0, 4095) || !days(day)) return BAD;
        List<int[]> all = likes(marks, day);
        if (all.isEmpty()) return NONE;
        int[] ways = new int[2];
        for (int[] c : all) {
            ways[c[1]] += far(marks, c[0]) == far(marks, all.get(0)[0]) ? 1 : 0;
        }
        return ways[0] == ways[1] ? all.get(0)[1] : ways[1] > ways[0] ? 1 : 0;
    }

    int sight(int s, int x1, int y1, int x2, int y2) {
        if (!in(x1, 0, 9) || !in(y1, 0, 9) || !in(x2, 0, 9) || !in(y2, 0, 9) || x1 == x2 && y1 == y2 || !in(s, 0, 7)) return BAD;
        if (items[s] == null) return find(1);
        if (items[s].length < 100) return find(2);
        for (long h : items[s]) {
            if (!in(h, 0, 100)) return BAD;
        }
        int n = Math.max(Math.abs(x2 - x1), Math.abs(y2 - y1));
        double eye = items[s][x1 + 10 * y1] + 2;
        double end = items[s][x2 + 10 * y2];
        for (int k = 1; k < n; k++) {
            int x = x1 + (int) Math.floor((2.0 * (x2 - x1) * k + n) / (2.0 * n));
            int y = y1 + (int) Math.floor((2.0 * (y2 - y1) * k + n) / (2.0 * n));
            if (items[s][x + 10 * y] > (long) ((eye * (n - k) + end * k) / n)) return ok(0);
        }
        return ok(1);
    }

    int day(int day) {
        if (!days(day)) return BAD;
        int was = today;
        today = day;
        return was;
    }

    private int kindThen(int part, int day) {
        int g = gradeThen(parts.get(part)[0], day, day);
        boolean kept = g > 0 && age(part, day) >= 100;
        return kept && g == 1 ? 2 : kept ? 1 : age(part, day) < 30 ? 3 : 0;
    }

    int kind(int part) {
        return is(parts, part) ? kindThen(part, today) : BAD;
    }

    int as(int part, int kind) {
        if (!is(parts, part) || !in(kind, 0, 3)) return BAD;
        int told = kindThen(part, today);
        boolean fits = kind == 0 || kind == 1 && (told == 1 || told == 2) || kind == 2 && told == 2 || kind == 3 && told == 3;
        return fits ? ok(parts.get(part)[2]) : find(3);
    }

    private int body(int number, int part) {
        trace.add(number);
        int[] p = parts.get(part);
        switch (number) {
            case 10: return p[3];
            case 11: return body(10, part) + age(part, today);
            case 12: return body(11, part) * 2;
            case 13: return body(10, part) / 2;
            case 20: return p[1];
            case 21: return body(20, part) + 10 * gradeThen(p[0], today, today);
            case 22: return body(21, part) + body(10 + kindThen(part, today), part);
            default: return body(20, part) + body(10 + kindThen(part, today), part);
        }
    }

    int ask(int part, int what) {
        if (!is(parts, part) || !in(what, 0, 1)) return BAD;
        trace.clear();
        return body(10 * (what + 1) + kindThen(part, today), part);
    }

    int trace(int i) {
        return is(trace, i) && i < 16 ? trace.get(i) : NONE;
    }

    int count(int what) {
        int sheets = 0, kept = 0, prime = 0;
        for (long[] s : items) {
            sheets += s == null ? 0 : 1;
        }
        for (int p = 0; p < parts.size(); p++) {
            int kind = kindThen(p, today);
            kept += kind == 1 || kind == 2 ? 1 : 0;
            prime += kind == 2 ? 1 : 0;
        }
        int[] all = {sheets, houses, parts.size(), kept, prime, acts.size(), leaves.size(), works.size(), cases.size(), tape.length()};
        return in(what, 0, 9) ? all[what] : BAD;
    }

    int status() {
        return status;
    }
}
