import java.lang.management.ManagementFactory;

/** What an object and its 512 dearest calls take from the one room that a whole run has. */
public final class RoomTest {
    private static final int CALLS = 512;
    private static final com.sun.management.ThreadMXBean ROOM =
            (com.sun.management.ThreadMXBean) ManagementFactory.getThreadMXBean();

    private static int sum;

    public static void main(String[] args) {
        run();
        long begin = taken();
        GradedHouses x = new GradedHouses();
        long made = taken() - begin;
        run();
        long before = taken();
        run();
        long all = taken() - before;
        System.out.println("bytes for an object: " + made + ", for a full one and dear calls: " + all);
        if (x.count(0) != 0 || sum == 0 || made > 20000 || all > 40000) {
            System.out.println("that is too much");
            System.exit(1);
        }
    }

    private static long taken() {
        return ROOM.getThreadAllocatedBytes(Thread.currentThread().getId());
    }

    /** Tells all that can be told, and asks what is dear; no text is made here. */
    private static void run() {
        GradedHouses x = new GradedHouses();
        x.house();
        for (int k = 0; k < 30; k++) {
            sum += x.list(0, 1, 0, 0) + x.part(0, 0, 1500, 0) + x.leave(0, 0, 0, 9, 255) + x.ahead(0, 1);
            sum += x.work(0, 0, 0) + x.enter(k, 0, 0) + x.sheet(k % 8, 2, 100);
        }
        for (int k = 0; k < 24; k++) {
            sum += x.set(0, k, 1);
        }
        for (int k = 0; k < CALLS; k++) {
            sum += x.fund(0, 0, 12, 500, 0) + x.use(0, 0, 12, 9, 0, 0, 2) + x.conditions(0, 2) + x.row(0, 7);
            sum += x.like(9, 9, 15, 0) + x.binds(9, 9) + x.ask(0, 1) + x.judged(0, 1) + x.sheet(1, 0, 100);
            sum += x.sight(1, 0, 0, 9, 4) + x.copy(0, 0, 0, 1, 50) + x.feed(0, 8) + x.acts() + x.count(3);
        }
    }
}
