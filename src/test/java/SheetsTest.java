/** Promises 1 to 5 and 36: a new object, sheet, set, copy, drop, status. */
public final class SheetsTest {
    private static final Due due = new Due();
    private static final int BAD = GradedHouses.BAD;

    public static void main(String[] args) {
        newObject();
        sheet();
        set();
        copy();
        drop();
        status();
        due.end();
    }

    private static void newObject() {
        GradedHouses x = new GradedHouses();
        for (int what = 0; what <= 9; what++) {
            due.is("new count(" + what + ")", x.count(what), 0);
        }
        due.is("new status", x.status(), 0);
        due.is("new fault", x.fault(), 0);
        due.is("new day", x.day(0), 0);
        due.is("new trace", x.trace(0), GradedHouses.NONE);
        for (int sheet = 0; sheet < 8; sheet++) {
            due.is("new drop", x.drop(sheet), Due.NULL);
        }
        for (int mark = 0; mark < 12; mark++) {
            due.is("new weight", x.weight(mark, 1), 1);
        }
        GradedHouses y = new GradedHouses();
        x.house();
        due.is("another object", y.count(1), 0);
    }

    private static void sheet() {
        GradedHouses x = new GradedHouses();
        due.is("sheet of none", x.sheet(7, 2, 0), 0);
        due.is("sheet of 100", x.sheet(0, 0, 100), 100);
        due.is("count", x.count(0), 2);
        due.is("sheet -1", x.sheet(-1, 0, 1), BAD);
        due.is("sheet 8", x.sheet(8, 0, 1), BAD);
        due.is("lane -1", x.sheet(1, -1, 1), BAD);
        due.is("lane 3", x.sheet(1, 3, 1), BAD);
        due.is("101 items", x.sheet(1, 0, 101), BAD);
        due.is("greatest", x.sheet(1, 0, Integer.MAX_VALUE), BAD);
        due.is("SIZE", x.sheet(1, 0, -1), Due.SIZE);
        due.is("SIZE, least", x.sheet(1, 0, Integer.MIN_VALUE), Due.SIZE);
        due.is("BAD ahead of SIZE", x.sheet(1, 3, -1), BAD);
        due.is("count, refused", x.count(0), 2);
        due.is("SIZE keeps the old one", x.sheet(0, 2, -1), Due.SIZE);
        due.is("its lane and size, too", x.set(0, 99, 257), 1);
        Due.lay(x, 1, 5, 5);
        due.is("items", x.fund(1, 0, 1, 5, 1), 5);
        due.is("in place", x.sheet(1, 2, 2), 2);
        due.is("0 at first: no cost", x.fund(1, 0, 1, 5, 1), BAD);
        x.set(1, 0, 5);
        due.is("0 at first: no worth", x.fund(1, 0, 1, 5, 1), 0);
        due.is("a smaller one", x.sheet(1, 2, 1), 1);
        due.is("has fewer places", x.set(1, 1, 5), Due.PLACE);
    }

    private static void set() {
        GradedHouses x = new GradedHouses();
        x.sheet(0, 0, 2);
        x.sheet(1, 1, 2);
        x.sheet(2, 2, 2);
        due.is("byte 127", x.set(0, 0, 127), 127);
        due.is("byte 128", x.set(0, 0, 128), -128);
        due.is("byte 255", x.set(0, 1, 255), -1);
        due.is("byte 256", x.set(0, 1, 256), 0);
        due.is("byte -129", x.set(0, 1, -129), 127);
        due.is("short 32767", x.set(1, 0, 32767), 32767);
        due.is("short 32768", x.set(1, 0, 32768), -32768);
        due.is("short 65535", x.set(1, 1, 65535), -1);
        due.is("short 65536", x.set(1, 1, 65536 * 3 + 7), 7);
        due.is("int", x.set(2, 1, Integer.MIN_VALUE), Integer.MIN_VALUE);
        due.is("sheet 8", x.set(8, 0, 1), BAD);
        due.is("sheet -1", x.set(-1, 0, 1), BAD);
        due.is("NULL", x.set(3, 0, 1), Due.NULL);
        due.is("NULL ahead of PLACE", x.set(3, -1, 1), Due.NULL);
        due.is("PLACE 2", x.set(0, 2, 1), Due.PLACE);
        due.is("PLACE -1", x.set(0, -1, 1), Due.PLACE);
        due.is("PLACE, greatest", x.set(0, Integer.MAX_VALUE, 1), Due.PLACE);
    }

    private static void copy() {
        GradedHouses x = new GradedHouses();
        Due.lay(x, 0, 1, 10, 2, 20, 3, 30);
        Due.lay(x, 1, 0, 0, 0, 0);
        due.is("copy", x.copy(0, 2, 1, 0, 4), 4);
        due.is("copied worths", x.fund(1, 0, 2, 500, 1), 50);
        due.is("upwards over itself", x.copy(0, 0, 0, 2, 4), 4);
        due.is("as they were ahead", x.fund(0, 0, 3, 500, 1), 40);
        due.is("downwards over itself", x.copy(0, 2, 0, 0, 4), 4);
        due.is("as they were ahead, too", x.fund(0, 0, 3, 500, 1), 50);
        due.is("none, at the end", x.copy(0, 6, 1, 4, 0), 0);
        due.is("a -1", x.copy(-1, 0, 0, 0, 0), BAD);
        due.is("a 8", x.copy(8, 0, 0, 0, 0), BAD);
        due.is("b 8", x.copy(0, 0, 8, 0, 0), BAD);
        due.is("BAD ahead of NULL", x.copy(5, 0, 8, 0, 0), BAD);
        due.is("NULL a", x.copy(5, 0, 0, 0, 0), Due.NULL);
        due.is("NULL b", x.copy(0, 0, 5, 0, -1), Due.NULL);
        x.sheet(2, 1, 6);
        due.is("STORE", x.copy(0, 0, 2, 0, 1), Due.STORE);
        due.is("STORE ahead of PLACE", x.copy(0, -1, 2, 0, 1), Due.STORE);
        due.is("i", x.copy(0, -1, 1, 0, 1), Due.PLACE);
        due.is("j", x.copy(0, 0, 1, -1, 1), Due.PLACE);
        due.is("n", x.copy(0, 0, 1, 0, -1), Due.PLACE);
        due.is("end of a", x.copy(0, 5, 1, 0, 2), Due.PLACE);
        due.is("end of b", x.copy(0, 0, 1, 3, 2), Due.PLACE);
        due.is("wraps around", x.copy(0, 2, 1, 0, Integer.MAX_VALUE), Due.PLACE);
        due.is("wraps around, too", x.copy(0, Integer.MAX_VALUE, 1, 0, Integer.MAX_VALUE), Due.PLACE);
        due.is("none, beyond an end", x.copy(0, 7, 1, 0, 0), Due.PLACE);
    }

    private static void drop() {
        GradedHouses x = new GradedHouses();
        x.sheet(4, 0, 17);
        due.is("drop", x.drop(4), 17);
        due.is("count", x.count(0), 0);
        due.is("dropped", x.drop(4), Due.NULL);
        due.is("set", x.set(4, 0, 0), Due.NULL);
        due.is("drop -1", x.drop(-1), BAD);
        due.is("drop 8", x.drop(8), BAD);
        due.is("laid anew", x.sheet(4, 1, 3), 3);
        due.is("of three", x.drop(4), 3);
    }

    private static void status() {
        GradedHouses x = new GradedHouses();
        x.drop(0);
        due.is("NULL", x.status(), 1);
        x.drop(9);
        due.is("BAD leaves it", x.status(), 1);
        x.sheet(0, 0, 2);
        due.is("no finding", x.status(), 0);
        x.set(0, 2, 0);
        due.is("PLACE", x.status(), 2);
        x.sheet(0, 0, -1);
        due.is("SIZE", x.status(), 4);
        x.sheet(1, 1, 2);
        x.copy(0, 0, 1, 0, 0);
        due.is("STORE", x.status(), 5);
        x.house();
        x.part(0, 0, 1700, 0);
        x.kind(0);
        x.ask(0, 0);
        x.count(0);
        due.is("others leave it", x.status(), 5);
        x.as(0, 2);
        due.is("KIND", x.status(), 3);
        x.as(0, 4);
        due.is("as BAD", x.status(), 3);
        x.as(0, 0);
        due.is("as", x.status(), 0);
        x.fund(0, 1, 1, 0, 0);
        due.is("fund PLACE", x.status(), 2);
        x.fund(0, 0, 1, 0, 0);
        due.is("a BAD item leaves it", x.status(), 2);
        Due.lay(x, 2, 1, 1);
        x.use(3, 0, 1, 0, 0, 0, 0);
        due.is("use NULL", x.status(), 1);
        due.is("use NONE", x.use(2, 0, 1, 5, 0, 0, 0), GradedHouses.NONE);
        due.is("NONE is no finding", x.status(), 0);
        x.sight(2, 0, 0, 1, 1);
        due.is("sight PLACE", x.status(), 2);
        x.fund(2, 0, 1, 0, 0);
        due.is("fund", x.status(), 0);
        x.sight(5, 0, 0, 1, 1);
        due.is("sight NULL", x.status(), 1);
        x.sheet(5, 0, 100);
        x.sight(6, 0, 0, 1, 1);
        x.sight(5, 0, 0, 1, 1);
        due.is("sight", x.status(), 0);
    }
}
