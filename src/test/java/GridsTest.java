/** Promises 1 to 7: a new object, and the grids. */
public final class GridsTest {
    private static final int BAD = GeoThreads.BAD, STATE = GeoThreads.STATE, FULL = GeoThreads.FULL;
    private static final int NULL = -11, INDEX = -12, STORE = -14, SIZE = -15;
    private static final long NO = GeoThreads.NO;
    private static final Due due = new Due();

    public static void main(String[] args) {
        newObject();
        grid();
        line();
        put();
        item();
        lay();
        size();
        due.end();
    }

    private static int threadsOf(GeoThreads x) {
        int n = 0;
        while (n < 100 && x.finished(n) == 0) n++;
        return n;
    }

    private static void newObject() {
        due.part("promise 1");
        int[] given = {Integer.MIN_VALUE, -1, 0, 1, 2, 5, 6, 7, Integer.MAX_VALUE};
        int[] want = {1, 1, 1, 1, 2, 5, 6, 6, 6};
        for (int i = 0; i < given.length; i++) due.is("threads of " + given[i], threadsOf(new GeoThreads(given[i], 5)), want[i]);
        int[] memory = {Integer.MIN_VALUE, -1, 0, 1, 999, 1000, 1001, Integer.MAX_VALUE};
        int[] all = {0, 0, 0, 1, 999, 1000, 1000, 1000};
        for (int i = 0; i < memory.length; i++) {
            GeoThreads x = new GeoThreads(1, memory[i]);
            due.is("memory of " + memory[i], x.count(5), all[i]);
            due.is("a need of all", x.way(false, 1, 1, 0, all[i], 1), 0);
            due.is("a need above all", x.way(false, 1, 1, 0, all[i] + 1, 1), BAD);
        }
        due.are("count of a new one", Ask.count(new GeoThreads(2, 7)), 0, 0, 0, 0, 0, 7, 0, 0, 0);
    }

    private static void grid() {
        due.part("promise 2");
        GeoThreads x = new GeoThreads(1, 0);
        due.is("kind -1", x.grid(-1, 1, 1), BAD);
        due.is("kind 6", x.grid(6, 1, 1), BAD);
        due.is("n 13", x.grid(0, 13, 1), BAD);
        due.is("m 14", x.grid(0, 1, 14), BAD);
        due.is("BAD ahead of SIZE (m)", x.grid(0, -1, 14), BAD);
        due.is("BAD ahead of SIZE (n)", x.grid(0, 13, -1), BAD);
        due.is("BAD ahead of SIZE (kind)", x.grid(7, -1, -1), BAD);
        due.is("n -1", x.grid(0, -1, 1), SIZE);
        due.is("m -1", x.grid(0, 1, -1), SIZE);
        due.is("least ints", x.grid(0, Integer.MIN_VALUE, Integer.MIN_VALUE), SIZE);
        due.is("none so far", x.count(0), 0);
        due.is("12 of 12", x.grid(3, 12, 12), 0);
        due.is("0 at first", x.item(0, 3, 11, 11), 0);
        due.is("no lines", x.grid(0, 0, 12), 1);
        due.is("no items", x.grid(1, 3, 0), 2);
        due.is("missing ones", x.grid(2, 2, 13), 3);
        due.is("size of no items", x.size(2, 2), 0);
        due.is("size of missing", x.size(3, 1), NULL);
        due.is("fifth", x.grid(4, 2, 2), 4);
        due.is("lines are not one and the same", x.put(4, 0, 0, 3), 1);
        due.is("the other line", x.item(4, 4, 1, 0), 0);
        due.is("sixth", x.grid(5, 1, 1), 5);
        due.is("seventh", x.grid(5, 1, 1), FULL);
        due.is("FULL ahead of SIZE", x.grid(5, -1, 1), FULL);
        due.is("BAD ahead of FULL", x.grid(5, 13, 1), BAD);
        due.is("how many", x.count(0), 6);
        x.way(false, 9, 1, 0, 0, 9);
        x.run(1);
        due.is("STATE ahead of FULL, SIZE", x.grid(5, -1, 1), STATE);
        due.is("BAD ahead of STATE", x.grid(6, 1, 1), BAD);
        x.close();
        due.is("closed: STATE no more", x.grid(5, 1, 1), FULL);
        GeoThreads y = new GeoThreads(1, 0);
        y.run(1);
        due.is("over: STATE no more", y.grid(5, 1, 1), 0);
    }

    private static void line() {
        due.part("promise 3");
        GeoThreads x = new GeoThreads(1, 0);
        x.grid(2, 3, 4);
        due.is("no grid", x.line(1, 0, 1), BAD);
        due.is("grid -1", x.line(-1, 0, 1), BAD);
        due.is("m 14", x.line(0, 0, 14), BAD);
        due.is("SIZE", x.line(0, 0, -1), SIZE);
        due.is("SIZE ahead of INDEX", x.line(0, 3, -1), SIZE);
        due.is("INDEX above", x.line(0, 3, 1), INDEX);
        due.is("INDEX below", x.line(0, -1, 1), INDEX);
        due.is("INDEX for missing", x.line(0, 3, 13), INDEX);
        x.put(0, 1, 0, 5);
        due.is("new one of 12", x.line(0, 1, 12), 12);
        due.is("its size", x.size(0, 1), 12);
        due.is("its items are 0", x.item(0, 2, 1, 0), 0);
        due.is("new one of 0", x.line(0, 1, 0), 0);
        due.is("its size", x.size(0, 1), 0);
        due.is("missing", x.line(0, 1, 13), 13);
        due.is("its size", x.size(0, 1), NULL);
        due.is("back", x.line(0, 1, 2), 2);
        due.is("its size", x.size(0, 1), 2);
        x.lay(0, 0, 0, 1);
        x.put(0, 0, 0, 8);
        due.is("a new one at one place", x.line(0, 1, 2), 2);
        due.is("the other place keeps it", x.item(0, 2, 0, 0), 8);
        due.is("the new one", x.item(0, 2, 1, 0), 0);
        x.way(false, 9, 1, 0, 0, 9);
        x.run(1);
        due.is("STATE", x.line(0, 1, 2), STATE);
        due.is("STATE ahead of SIZE", x.line(0, 9, -1), STATE);
        due.is("BAD ahead of STATE", x.line(0, 1, 14), BAD);
    }

    private static void put() {
        due.part("promise 4");
        long[] given = {0, 1, -1, 127, 128, 255, 256, 32767, 32768, 1L << 31, (1L << 40) + 5, -129,
            16777217, (1L << 53) + 1, Long.MAX_VALUE, Long.MIN_VALUE};
        for (int kind = 0; kind < 6; kind++) {
            GeoThreads x = new GeoThreads(1, 0);
            x.grid(kind, 1, 1);
            for (long v : given) {
                due.is("put of " + v, x.put(0, 0, 0, v), 1);
                due.is("number of " + v + " as kind " + kind, x.item(0, kind, 0, 0), number(kind, v));
            }
        }
        GeoThreads x = new GeoThreads(1, 0);
        x.grid(2, 2, 2);
        x.line(0, 1, 13);
        due.is("no grid", x.put(1, 0, 0, 1), BAD);
        due.is("grid -1", x.put(-1, 0, 0, 1), BAD);
        due.is("INDEX of the line", x.put(0, 2, 0, 1), INDEX);
        due.is("INDEX of the line, below", x.put(0, -1, 5, 1), INDEX);
        due.is("NULL ahead of INDEX of the item", x.put(0, 1, 5, 1), NULL);
        due.is("INDEX of the item", x.put(0, 0, 2, 1), INDEX);
        due.is("INDEX of the item, below", x.put(0, 0, -1, 1), INDEX);
        x.way(false, 9, 1, 0, 0, 9);
        x.run(1);
        due.is("STATE", x.put(0, 0, 0, 1), STATE);
        due.is("STATE ahead of faults", x.put(0, 5, 0, 1), STATE);
        due.is("BAD ahead of STATE", x.put(1, 0, 0, 1), BAD);
        due.is("nothing changed", x.item(0, 2, 0, 0), 0);
    }

    private static long number(int kind, long v) {
        byte[] bytes = {(byte) v};
        short[] shorts = {(short) v};
        int[] ints = {(int) v};
        float[] floats = {(float) v / 4};
        double[] doubles = {(double) v / 4};
        long[] all = {bytes[0], shorts[0], ints[0], v, (long) (floats[0] * 4), (long) (doubles[0] * 4)};
        return all[kind];
    }

    private static void item() {
        due.part("promise 5");
        GeoThreads x = new GeoThreads(1, 0);
        x.grid(2, 2, 2);
        x.put(0, 0, 1, -77);
        x.line(0, 1, 13);
        due.is("number", x.item(0, 2, 0, 1), -77);
        due.is("no grid", x.item(1, 2, 0, 1), NO);
        due.is("grid -1", x.item(-1, 2, 0, 1), NO);
        due.is("kind -1", x.item(0, -1, 0, 1), NO);
        due.is("kind 6", x.item(0, 6, 0, 1), NO);
        due.is("CAST", x.item(0, 3, 0, 1), NO);
        due.is("INDEX of the line", x.item(0, 2, 2, 1), NO);
        due.is("INDEX of the line, below", x.item(0, 2, -1, 1), NO);
        due.is("NULL", x.item(0, 2, 1, 0), NO);
        due.is("INDEX of the item", x.item(0, 2, 0, 2), NO);
        due.is("INDEX of the item, below", x.item(0, 2, 0, -1), NO);
        x.way(false, 9, 1, 0, 0, 9);
        x.run(1);
        due.is("while a run is OPEN", x.item(0, 2, 0, 1), -77);
    }

    private static void lay() {
        due.part("promise 6");
        GeoThreads x = new GeoThreads(1, 0);
        x.grid(2, 3, 2);
        x.grid(2, 2, 13);
        x.grid(3, 2, 2);
        due.is("no grid", x.lay(3, 0, 0, 0), BAD);
        due.is("no other grid", x.lay(0, 0, 3, 0), BAD);
        due.is("grids below 0", x.lay(-1, 0, -1, 0), BAD);
        due.is("INDEX j", x.lay(0, 0, 2, 2), INDEX);
        due.is("INDEX i", x.lay(0, 3, 2, 0), INDEX);
        due.is("INDEX j below", x.lay(0, 0, 0, -1), INDEX);
        due.is("INDEX i below", x.lay(0, -1, 0, 0), INDEX);
        due.is("STORE", x.lay(0, 0, 2, 0), STORE);
        due.is("STORE changes nothing", x.size(0, 0), 2);
        due.is("another one", x.lay(1, 1, 0, 2), 1);
        x.put(0, 2, 1, 44);
        due.is("one and the same", x.item(1, 2, 1, 1), 44);
        x.put(1, 1, 0, 45);
        due.is("the other way round", x.item(0, 2, 2, 0), 45);
        due.is("itself", x.lay(0, 0, 0, 2), 1);
        due.is("at three places", x.item(0, 2, 0, 1), 44);
        due.is("onto its own place", x.lay(0, 0, 0, 0), 1);
        due.is("missing", x.lay(0, 2, 1, 0), 0);
        due.is("is missing then", x.size(0, 2), NULL);
        due.is("what is missing fits all", x.lay(2, 1, 1, 0), 0);
        due.is("is missing then", x.size(2, 1), NULL);
        due.is("the places left keep it", x.item(1, 2, 1, 1), 44);
        x.way(false, 9, 1, 0, 0, 9);
        x.run(1);
        due.is("STATE", x.lay(0, 0, 0, 0), STATE);
        due.is("STATE ahead of faults", x.lay(0, 9, 0, 0), STATE);
        due.is("BAD ahead of STATE", x.lay(0, 0, 3, 0), BAD);
    }

    private static void size() {
        due.part("promise 7");
        GeoThreads x = new GeoThreads(1, 0);
        x.grid(2, 3, 5);
        x.grid(2, 0, 5);
        x.line(0, 1, 13);
        due.is("lines", x.size(0, -1), 3);
        due.is("no lines", x.size(1, -1), 0);
        due.is("items", x.size(0, 2), 5);
        due.is("NULL", x.size(0, 1), NULL);
        due.is("INDEX", x.size(0, 3), INDEX);
        due.is("INDEX below", x.size(0, -2), INDEX);
        due.is("INDEX of none", x.size(1, 0), INDEX);
        due.is("no grid", x.size(2, -1), BAD);
        due.is("grid -1", x.size(-1, -1), BAD);
        x.way(false, 9, 1, 0, 0, 9);
        x.run(1);
        due.is("while a run is OPEN", x.size(0, -1), 3);
    }
}
