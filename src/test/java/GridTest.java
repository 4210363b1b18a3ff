import java.lang.reflect.InvocationTargetException;
import java.lang.reflect.Method;
import java.util.ArrayList;
import java.util.Arrays;
import java.util.LinkedHashMap;
import java.util.List;
import java.util.Map;

/**
 * Every combination of numbers on both sides of their bounds, call by call, on objects that have
 * nothing, something and all that they may have: none throws, and each answers as PlainModel does.
 */
public final class GridTest {
    private static final int MOST = Integer.MAX_VALUE, LEAST = Integer.MIN_VALUE;
    private static final int CALLS = 150;
    private static final Map<String, int[][]> GRID = new LinkedHashMap<>();
    private static final Map<String, Method> FACE = new LinkedHashMap<>();
    private static final Map<String, Method> MODEL = new LinkedHashMap<>();

    private GradedHouses x;
    private PlainModel y;
    private int calls;
    private int wrong;

    private static void bounds(String call, int[]... numbers) {
        GRID.put(call, numbers);
    }

    private static int[] of(int... numbers) {
        int[] all = Arrays.copyOf(numbers, numbers.length + 2);
        all[numbers.length] = LEAST;
        all[numbers.length + 1] = MOST;
        return all;
    }

    static {
        int[] sheets = {-1, 0, 1, 2, 3, 7, 8};
        int[] few = {-1, 0, 1};
        int[] days = of(-1, 0, 20, 99999, 100000);
        int[] parts = of(-1, 0, 1, 15, 16);
        int[] works = {-1, 0, 1, 3, 4};
        int[] marks = {-1, 0, 5, 4095, 4096};
        bounds("sheet", of(-1, 0, 7, 8), of(-1, 0, 2, 3), of(-1, 0, 1, 100, 101));
        bounds("set", sheets, of(-1, 0, 3, 4, 99, 100), of(-129, -1, 0, 127, 128, 255, 256, 32767, 32768, 65536));
        bounds("copy", sheets, of(-1, 0, 3, 4, 5), sheets, of(-1, 0, 3, 4, 5), of(-1, 0, 1, 4, 5));
        bounds("drop", of(-1, 0, 1, 7, 8));
        bounds("house");
        bounds("list", of(-1, 0, 1, 5, 6), of(-1, 0, 1, 3, 4), days, days);
        bounds("grade", of(-1, 0, 1, 5, 6), days, days);
        bounds("part", of(-1, 0, 1, 5, 6), of(-1, 0, 4, 5), of(999, 1000, 1999, 2000), of(-1, 0, 10000, 10001));
        bounds("told", parts, of(-1, 0, 1, 2, 3, 4, 5, 6));
        bounds("feed", of(0, 32, 59, 97), of(-1, 0, 1, 8, 9));
        bounds("acts");
        bounds("fault");
        bounds("needs", parts, works, days, of(-1, 0, 1, 2));
        bounds("leave", parts, works, days, days, new int[] {-1, 0, 1, 15, 256});
        bounds("prove", of(-1, 0, 1, 9, 10), of(-1, 0, 1, 7, 8), days);
        bounds("ahead", of(-1, 0, 1, 7, 8), of(-1, 0, 1, 7, 8));
        bounds("conditions", of(-1, 0, 1, 9, 10), of(-1, 0, 1, 2, 3, 4));
        bounds("row", of(-1, 0, 1, 9, 10), of(-1, 0, 1, 3, 4, 5));
        bounds("work", parts, works, days);
        bounds("judged", of(-1, 0, 1, 19, 20), of(-1, 0, 1, 2));
        bounds("grant", of(-1, 0, 1, 59999, 60000, 100000, 100001), of(-1, 0, 1, 2, 3, 4));
        bounds("fund", sheets, of(-1, 0, 1, 2, 3), of(0, 1, 2, 3, 12, 13), of(-1, 0, 5, 500, 501), of(-1, 0, 1, 2));
        bounds("use", sheets, of(-1, 0, 1), of(0, 1, 2, 13), of(-1, 0, 7, 5000, 5001), new int[] {-1, 0, 1, 3, 4},
                new int[] {-1, 0, 3, 100000, 100001}, new int[] {-1, 0, 1, 2, 3});
        bounds("enter", marks, few, days);
        bounds("weight", of(-1, 0, 11, 12), of(-1, 0, 1, 9, 10));
        bounds("like", marks, days, of(-1, 0, 1, 15, 16), of(-1, 0, 1, 2, 3));
        bounds("binds", marks, days);
        bounds("sight", new int[] {-1, 0, 1, 3, 7, 8}, of(-1, 0, 9, 10), of(-1, 0, 9, 10), of(-1, 0, 9, 10), of(-1, 0, 9, 10));
        bounds("day", days);
        bounds("kind", parts);
        bounds("as", parts, of(-1, 0, 1, 2, 3, 4));
        bounds("ask", parts, of(-1, 0, 1, 2));
        bounds("trace", of(-1, 0, 1, 5, 6, 15, 16));
        bounds("count", of(-1, 0, 1, 2, 3, 4, 5, 6, 7, 8, 9, 10));
        bounds("status");
        for (Method method : GradedHouses.class.getDeclaredMethods()) {
            FACE.put(method.getName(), method);
        }
        for (Method method : PlainModel.class.getDeclaredMethods()) {
            if (GRID.containsKey(method.getName())) {
                MODEL.put(method.getName(), method);
            }
        }
    }

    public static void main(String[] args) {
        Due due = new Due();
        due.is("calls", GRID.size(), 35);
        GridTest test = new GridTest();
        for (String call : GRID.keySet()) {
            for (int state = 0; state < 3; state++) {
                test.allOf(call, state);
            }
        }
        due.is("wrong", test.wrong, 0);
        due.end();
    }

    private static List<Object[]> combinations(String call) {
        List<Object[]> all = new ArrayList<>();
        all.add(new Object[0]);
        for (int[] numbers : GRID.get(call)) {
            List<Object[]> longer = new ArrayList<>();
            for (Object[] ahead : all) {
                for (int number : numbers) {
                    Object[] one = Arrays.copyOf(ahead, ahead.length + 1);
                    one[ahead.length] = call.equals("feed") && ahead.length == 0 ? (Object) (long) number : (Object) number;
                    longer.add(one);
                }
            }
            all = longer;
        }
        return all;
    }

    private void allOf(String call, int state) {
        build(state);
        for (Object[] numbers : combinations(call)) {
            if (calls > CALLS) {
                build(state);
            }
            both(call, numbers);
            both("status");
        }
    }

    private void both(String call, Object... numbers) {
        calls++;
        try {
            Object got = FACE.get(call).invoke(x, numbers);
            Object want = MODEL.get(call).invoke(y, numbers);
            if (!got.equals(want)) {
                tell(call, numbers, got + ", due is " + want);
            }
        } catch (InvocationTargetException thrown) {
            tell(call, numbers, thrown.getCause().toString());
        } catch (IllegalAccessException thrown) {
            tell(call, numbers, thrown.toString());
        }
    }

    private void tell(String call, Object[] numbers, String answer) {
        wrong++;
        if (wrong < 20) {
            System.out.println(call + Arrays.toString(numbers) + " answered " + answer);
        }
    }

    /**
     * 0: a new object; 1: some of everything; 2: as much as there may be. An object is good for 512
     * calls: what is told here, and CALLS more.
     */
    private void build(int state) {
        x = new GradedHouses();
        y = new PlainModel();
        calls = 0;
        int houses = new int[] {0, 2, 6}[state];
        for (int k = 0; k < houses; k++) {
            both("house");
            both("list", k, 1 + k % 3, 0, 10 * k);
        }
        if (state > 0) {
            sheets();
            texts(state == 1 ? 2 : 24);
            told(state == 2);
            text(" ".repeat(state == 1 ? 9 : 500));
        }
        if (calls > 512 - CALLS - 2) {
            tell("build", new Object[] {state}, "too many calls: " + calls);
        }
        calls = 0;
    }

    private void sheets() {
        for (int sheet = 0; sheet < 3; sheet++) {
            both("sheet", sheet, sheet, 4);
            for (int k = 0; k < 4; k++) {
                both("set", sheet, k, 2 + k);
            }
        }
        both("sheet", 3, 1, 100);
        both("set", 3, 45, 9);
    }

    private void texts(int acts) {
        for (int k = 0; k < acts; k++) {
            text(k % 2 == 0 ? "act0grade1any paint needs;" : "act9grade2any repair free;");
            both("acts");
        }
    }

    private void text(String text) {
        for (int from = 0; from < text.length(); from += 8) {
            int to = Math.min(from + 8, text.length());
            long w = 0;
            for (int i = from; i < to; i++) {
                w = w << 8 | text.charAt(i);
            }
            both("feed", w, to - from);
        }
    }

    private void told(boolean all) {
        for (int k = 0; k < (all ? 30 : 2); k++) {
            if (k < 16) {
                both("part", k % 2, k % 5, 1590 + 10 * k, 7 * k);
                both("enter", k, k % 2, k);
            }
            if (k < 10) {
                both("leave", k, 3, 10, 30, k % 16);
            }
            if (k < 20) {
                both("work", k % 16, 3, 5 * k);
            }
            both("ahead", k % 3, 3);
            if (all) {
                both("list", k % 6, k % 4, k, k + 9);
            }
        }
        both("prove", 1, 0, 20);
        both("ask", 0, 1);
        both("as", 0, 3);
    }
}
