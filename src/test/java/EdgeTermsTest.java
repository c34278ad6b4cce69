import java.util.function.ToLongFunction;

/** The faults by number, the states, the order of the refusals: a test for each sentence of "Terms" that names some. */
public final class EdgeTermsTest {
    private static final int BAD = GeoThreads.BAD, STATE = GeoThreads.STATE, FULL = GeoThreads.FULL;
    private static final int NONE = GeoThreads.NONE;
    private static final long NO = GeoThreads.NO;
    private static final int LEAST = Integer.MIN_VALUE, MOST = Integer.MAX_VALUE;
    private static final Due due = new Due();

    public static void main(String[] args) {
        constants();
        linesAndItemsFrom0();
        faultNull();
        faultIndex();
        faultCast();
        faultStore();
        faultSize();
        faultZero();
        faultOwn();
        states();
        sorts();
        shareSort();
        overWhenNoneIsLeft();
        notesInOrder();
        noSuchThing();
        refusalsInOrder();
        due.end();
    }

    private static void constants() {
        due.sentence("public static final int BAD = -1, STATE = -2, FULL = -3, NONE = -9;");
        due.are("ints", new long[] {GeoThreads.BAD, GeoThreads.STATE, GeoThreads.FULL, GeoThreads.NONE}, -1, -2, -3, -9);
        due.sentence("public static final long NO = Long.MIN_VALUE;");
        due.is("NO", GeoThreads.NO, Long.MIN_VALUE);
    }

    private static void linesAndItemsFrom0() {
        due.sentence("and LINES 0 .. of ITEMS 0 .. of it");
        GeoThreads x = new GeoThreads(1, 0);
        x.grid(3, 2, 3);
        for (int i = 0; i < 2; i++) Ask.fill(x, 0, i, 10 * i + 1, 10 * i + 2, 10 * i + 3);
        due.are("line 0", Ask.items(x, 0, 3, 0), 1, 2, 3, NO);
        due.are("line 1", Ask.items(x, 0, 3, 1), 11, 12, 13, NO);
        due.is("no line -1", x.item(0, 3, -1, 0), NO);
        due.is("no line 2", x.item(0, 3, 2, 0), NO);
        due.is("no item -1", x.item(0, 3, 0, -1), NO);
    }

    /** The fault by which the task told last fails. */
    private static long fault(GeoThreads x) {
        x.run(1000);
        return x.told(x.count(1) - 1, 2);
    }

    /** Ints: line 0 MISSING, line 1 of one item; floats: one line. */
    private static GeoThreads grids() {
        GeoThreads x = new GeoThreads(1, 0);
        x.grid(2, 2, 1);
        x.line(0, 0, 13);
        x.grid(4, 1, 1);
        return x;
    }

    private static GeoThreads reader(boolean careful, int grid, int kind) {
        GeoThreads x = grids();
        x.reader(careful, grid, kind, 0, 9);
        return x;
    }

    private static GeoThreads share(int kind, int divisor, int line) {
        GeoThreads x = grids();
        x.search(0, kind, divisor, 9);
        x.share(0, line, line + 1, 0, 9);
        return x;
    }

    private static void faultNull() {
        due.sentence("1 NULL (a LINE is MISSING)");
        due.is("put", grids().put(0, 0, 0, 1), -11);
        due.is("size", grids().size(0, 0), -11);
        due.is("a reader", fault(reader(false, 0, 2)), 1);
        due.is("no fault of a careful one", fault(reader(true, 0, 2)), 0);
        due.is("a share", fault(share(2, 1, 0)), 1);
    }

    private static void faultIndex() {
        due.sentence("2 INDEX (no such LINE, ITEM)");
        due.is("line", grids().line(0, 2, 1), -12);
        due.is("put, no such line", grids().put(0, 2, 0, 1), -12);
        due.is("put, no such item", grids().put(0, 1, 1, 1), -12);
        due.is("lay", grids().lay(0, 2, 0, 1), -12);
        due.is("size", grids().size(0, 2), -12);
        due.is("a share", fault(share(2, 1, 2)), 2);
        due.is("no fault at the last line", fault(share(2, 1, 1)), 0);
    }

    private static void faultCast() {
        due.sentence("3 CAST (a GRID is not of the KIND as which it is taken)");
        due.is("item", grids().item(0, 4, 1, 0), NO);
        due.is("a reader", fault(reader(false, 0, 4)), 3);
        due.is("a careful one", fault(reader(true, 1, 2)), 3);
        due.is("a share", fault(share(4, 1, 1)), 3);
    }

    private static void faultStore() {
        due.sentence("4 STORE (a LINE is of another KIND than the GRID)");
        for (int kind = 0; kind < 6; kind++) {
            for (int other = 0; other < 6; other++) {
                GeoThreads x = new GeoThreads(1, 0);
                x.grid(kind, 1, 1);
                x.grid(other, 1, 1);
                due.is("kind " + other + " into " + kind, x.lay(0, 0, 1, 0), other == kind ? 1 : -14);
            }
        }
    }

    private static void faultSize() {
        due.sentence("5 SIZE (below 0)");
        due.is("grid, n", grids().grid(0, -1, 0), -15);
        due.is("grid, m", grids().grid(0, 0, -1), -15);
        due.is("line", grids().line(0, 0, -1), -15);
        due.is("0 is not below", grids().grid(0, 0, 0), 2);
        due.is("nor as a line", grids().line(0, 0, 0), 0);
    }

    private static void faultZero() {
        due.sentence("6 ZERO (by 0)");
        due.is("by 0", fault(share(2, 0, 1)), 6);
        due.is("by 1", fault(share(2, 1, 1)), 0);
    }

    private static void faultOwn() {
        due.sentence("7 OWN (told)");
        for (int doubles = 0; doubles < 2; doubles++) {
            GeoThreads x = new GeoThreads(1, 0);
            x.way(doubles == 1, 2, 1, 2, 0, 9);
            due.is("told", fault(x), 7);
            GeoThreads y = new GeoThreads(1, 0);
            y.way(doubles == 1, 2, 1, 0, 0, 9);
            due.is("not told", fault(y), 0);
        }
    }

    private static void states() {
        due.sentence("ITS STATE: 0 it WAITS (at first), 1 it is UNDER WAY; it ENDS as 2 PROVED, 3 FAILED (by a FAULT), 4 SPENT, 5 STOPPED, 6 INTERRUPTED.");
        GeoThreads x = new GeoThreads(2, 0);
        x.way(false, 9, 1, 1, 0, 9);
        x.way(false, 9, 2, 0, 0, 1);
        x.way(false, 9, 3, 0, 0, 9);
        x.way(false, 1, 4, 0, 0, 9);
        x.way(false, 1, 5, 0, 0, 9);
        due.are("at first", Ask.states(x), 0, 0, 0, 0, 0);
        x.run(2);
        due.are("two are UNDER WAY", Ask.states(x), 1, 1, 0, 0, 0);
        x.run(2);
        due.are("FAILED, SPENT", Ask.states(x), 3, 4, 0, 0, 0);
        x.interrupt(2);
        due.are("INTERRUPTED", Ask.states(x), 3, 4, 6, 0, 0);
        x.run(3);
        due.are("PROVED, to be STOPPED", Ask.states(x), 3, 4, 6, 2, 1);
        x.run(1);
        due.are("STOPPED", Ask.states(x), 3, 4, 6, 2, 5);
    }

    private static void sorts() {
        due.sentence("A PLAIN WAY (doubles: a DOUBLING one)");
        GeoThreads x = new GeoThreads(1, 0);
        x.way(false, 3, 1, 0, 0, 9);
        x.way(true, 3, 1, 0, 0, 9);
        due.are("sorts", new long[] {x.told(0, 0), x.told(1, 0)}, 0, 1);
    }

    private static void shareSort() {
        due.sentence("a SHARE (sort 4) of one is a TASK");
        GeoThreads x = share(2, 1, 1);
        due.is("sort", x.told(0, 0), 4);
        due.is("it counts as a task", x.count(1), 1);
        due.is("it is no way", x.run(1000), 2);
    }

    private static void overWhenNoneIsLeft() {
        due.sentence("When no TASK WAITS or is UNDER WAY, the run is over");
        GeoThreads x = new GeoThreads(1, 0);
        x.way(false, 1, 1, 1, 0, 9);
        x.way(false, 1, 2, 1, 0, 9);
        due.is("one WAITS", x.run(2), 0);
        due.is("it is UNDER WAY", x.run(1), 0);
        due.is("none is", x.run(1), 2);
        GeoThreads y = new GeoThreads(1, 0);
        y.way(false, 1, 1, 0, 0, 9);
        y.way(false, 1, 2, 0, 0, 9);
        due.is("the one that WAITS is STOPPED", y.run(2), 1);
        GeoThreads z = share(2, 1, 1);
        z.way(false, 1, 1, 0, 0, 9);
        z.share(0, 1, 2, 0, 9);
        due.is("shares WAIT behind the TAKEN one", z.run(4), 0);
        due.is("over with the last one", z.run(2), 1);
    }

    private static void notesInOrder() {
        due.sentence("NOTES are made, one behind the other");
        GeoThreads x = new GeoThreads(2, 0);
        x.way(false, 1, 1, 1, 0, 9);
        x.way(false, 2, 1, 1, 0, 9);
        x.way(false, 2, 1, 2, 0, 9);
        long[][] want = {{1}, {1, 111}, {1, 111, 3}, {1, 111, 3, 113}, {1, 111, 3, 113, 201},
            {1, 111, 3, 113, 201}, {1, 111, 3, 113, 201}, {1, 111, 3, 113, 201}, {1, 111, 3, 113, 201, 203}};
        for (int i = 0; i < want.length; i++) {
            x.run(1);
            due.are("behind turn " + (i + 1), Ask.notes(x), want[i]);
        }
    }

    private static void noSuchThing() {
        due.sentence("BAD (a number is not as told, or there is no such thing)");
        int[] none = {LEAST, -1, 0, MOST};
        for (int no : none) {
            GeoThreads x = new GeoThreads(1, 0);
            due.is("line", x.line(no, 0, 1), BAD);
            due.is("put", x.put(no, 0, 0, 1), BAD);
            due.is("item", x.item(no, 0, 0, 0), NO);
            due.is("lay", x.lay(no, 0, no, 0), BAD);
            due.is("size", x.size(no, -1), BAD);
            due.is("reader", x.reader(true, no, 0, 0, 1), BAD);
            due.is("search", x.search(no, 0, 1, 1), BAD);
            due.is("share", x.share(no, 0, 1, 0, 1), BAD);
            due.is("interrupt", x.interrupt(no), BAD);
            due.is("answer", x.answer(no), NO);
            due.is("told", x.told(no, 0), BAD);
            due.is("best", x.best(no, 0), BAD);
            due.is("note", x.note(no), NONE);
            due.are("nothing is there", Ask.count(x), 0, 0, 0, 0, 0, 0, 0, 0, 0);
        }
    }

    /** Six grids, 20 tasks, 8 searches: no more of these can be told. */
    private static GeoThreads full() {
        GeoThreads x = new GeoThreads(1, 10);
        for (int i = 0; i < 6; i++) x.grid(2, 1, 1);
        for (int i = 0; i < 8; i++) x.search(0, 2, 1, 9);
        for (int i = 0; i < 20; i++) x.way(false, 9, 1, 0, 0, 9);
        return x;
    }

    private static void first(String call, ToLongFunction<GeoThreads> asked, boolean open, long want) {
        new Twins(due, () -> open ? Made.opened(full()) : full()).unchanged(call, asked, want);
    }

    private static void refusalsInOrder() {
        due.sentence("Refused, and nothing changes, the first of these that fits: BAD (a number is not as told, or there is no such thing), STATE (a run is OPEN: all that tells GRIDS, TASKS, SEARCHES, THE SCHEDULE; or as told), FULL; then FAULTS.");
        first("grid: BAD, STATE, FULL, SIZE", x -> x.grid(6, -1, -1), true, BAD);
        first("grid: STATE, FULL, SIZE", x -> x.grid(0, -1, -1), true, STATE);
        first("grid: FULL, SIZE", x -> x.grid(0, -1, -1), false, FULL);
        first("line: BAD, STATE, SIZE, INDEX", x -> x.line(6, 1, -1), true, BAD);
        first("line: STATE, SIZE, INDEX", x -> x.line(0, 1, -1), true, STATE);
        first("line: SIZE, INDEX", x -> x.line(0, 1, -1), false, -15);
        first("line: INDEX", x -> x.line(0, 1, 1), false, -12);
        first("put: BAD, STATE, INDEX", x -> x.put(6, 1, 1, 1), true, BAD);
        first("put: STATE, INDEX", x -> x.put(0, 1, 1, 1), true, STATE);
        first("put: INDEX", x -> x.put(0, 1, 1, 1), false, -12);
        first("lay: BAD, STATE, INDEX", x -> x.lay(0, 1, 6, 1), true, BAD);
        first("lay: STATE, INDEX", x -> x.lay(0, 1, 0, 1), true, STATE);
        first("lay: INDEX", x -> x.lay(0, 1, 0, 1), false, -12);
        first("way: BAD, STATE, FULL", x -> x.way(true, 0, 1, 0, 0, 1), true, BAD);
        first("way: STATE, FULL", x -> x.way(true, 1, 1, 0, 0, 1), true, STATE);
        first("way: FULL", x -> x.way(true, 1, 1, 0, 0, 1), false, FULL);
        first("reader: BAD, STATE, FULL", x -> x.reader(true, 6, 2, 0, 1), true, BAD);
        first("reader: STATE, FULL", x -> x.reader(true, 0, 3, 0, 1), true, STATE);
        first("reader: FULL, though it would FAIL by CAST", x -> x.reader(true, 0, 3, 0, 1), false, FULL);
        first("search: BAD, STATE, FULL", x -> x.search(0, 2, 101, 1), true, BAD);
        first("search: STATE, FULL", x -> x.search(0, 3, 0, 1), true, STATE);
        first("search: FULL, though it would FAIL by CAST, ZERO", x -> x.search(0, 3, 0, 1), false, FULL);
        first("share: BAD, STATE, FULL", x -> x.share(8, 0, 1, 0, 1), true, BAD);
        first("share: STATE, FULL", x -> x.share(0, 0, 20, 0, 1), true, STATE);
        first("share: FULL, though it would FAIL by INDEX", x -> x.share(0, 0, 20, 0, 1), false, FULL);
        first("turn: BAD, STATE", x -> x.turn(1), true, BAD);
        first("turn: STATE", x -> x.turn(0), true, STATE);
        first("run: BAD", x -> x.run(0), true, BAD);
        first("interrupt: BAD, STATE", x -> x.interrupt(20), false, BAD);
        first("interrupt: STATE", x -> x.interrupt(19), false, STATE);
        first("close: STATE", GeoThreads::close, false, STATE);
    }
}
