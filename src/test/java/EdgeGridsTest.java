/** The boundary cases of grids and of promises 1 to 7: a test for each sentence of the document that names some. */
public final class EdgeGridsTest {
    private static final int BAD = GeoThreads.BAD, STATE = GeoThreads.STATE, FULL = GeoThreads.FULL;
    private static final int NULL = -11, INDEX = -12, STORE = -14, SIZE = -15;
    private static final long NO = GeoThreads.NO;
    private static final int LEAST = Integer.MIN_VALUE, MOST = Integer.MAX_VALUE;
    private static final Due due = new Due();
    private static final Twins told = new Twins(due, Made::told);
    private static final Twins open = new Twins(due, Made::open);

    public static void main(String[] args) {
        sixGrids();
        kinds();
        missingLine();
        oneAndTheSame();
        numbers();
        worths();
        faultNumbers();
        newThreads();
        newMemory();
        gridSizes();
        gridRefused();
        lineSizes();
        lineRefused();
        putCasts();
        putRefused();
        itemTaken();
        itemRefused();
        layAnswers();
        layRefused();
        sizes();
        sizeRefused();
        due.end();
    }

    private static GeoThreads withGrid(int kind, int n, int m) {
        GeoThreads x = new GeoThreads(1, 0);
        x.grid(kind, n, m);
        return x;
    }

    private static void sixGrids() {
        due.sentence("GRIDS (6 at most) have a KIND");
        GeoThreads x = new GeoThreads(1, 0);
        for (int i = 0; i < 6; i++) due.is("grid " + i, x.grid(0, 1, 1), i);
        due.is("grid 6", x.grid(0, 1, 1), FULL);
        due.is("how many", x.count(0), 6);
        due.is("the last one is there", x.size(5, -1), 1);
        due.is("there is none behind it", x.size(6, -1), BAD);
        x.anew();
        due.is("anew() frees none", x.grid(0, 1, 1), FULL);
    }

    private static void kinds() {
        due.sentence("0 BYTES, 1 SHORTS, 2 INTS, 3 LONGS, 4 FLOATS, 5 DOUBLES");
        long v = (1L << 62) + (1L << 32) + (1L << 31) + 0x8181;
        long[] want = {(byte) 0x81, (short) 0x8181, (int) ((1L << 31) + 0x8181), v, (long) (float) v, (long) (double) v};
        for (int kind = 0; kind < 6; kind++) {
            GeoThreads x = withGrid(kind, 1, 1);
            x.put(0, 0, 0, v);
            for (int as = -1; as < 7; as++) {
                due.is("kind " + kind + " as " + as, x.item(0, as, 0, 0), as == kind ? want[kind] : NO);
            }
        }
        due.is("kind -1", new GeoThreads(1, 0).grid(-1, 1, 1), BAD);
        due.is("kind 6", new GeoThreads(1, 0).grid(6, 1, 1), BAD);
        due.is("the least kind", new GeoThreads(1, 0).grid(LEAST, 1, 1), BAD);
        due.is("the greatest kind", new GeoThreads(1, 0).grid(MOST, 1, 1), BAD);
    }

    private static void missingLine() {
        due.sentence("a LINE may be MISSING");
        GeoThreads x = withGrid(2, 3, 1);
        due.is("it becomes so", x.line(0, 1, 13), 13);
        due.is("it is", x.size(0, 1), NULL);
        due.is("the one ahead is not", x.size(0, 0), 1);
        due.is("the one behind is not", x.size(0, 2), 1);
        due.is("it counts as a line", x.size(0, -1), 3);
        due.is("one without items is not MISSING", x.line(0, 1, 0), 0);
        due.is("it is there", x.size(0, 1), 0);
    }

    private static void oneAndTheSame() {
        due.sentence("One LINE may stand at several places, of several GRIDS: it is one and the same.");
        GeoThreads x = withGrid(3, 2, 2);
        x.grid(3, 2, 1);
        x.lay(0, 1, 0, 0);
        x.lay(1, 1, 0, 1);
        x.put(1, 1, 1, 9);
        due.are("grid 0, line 0", Ask.items(x, 0, 3, 0), 0, 9, NO);
        due.are("grid 0, line 1", Ask.items(x, 0, 3, 1), 0, 9, NO);
        x.put(0, 0, 0, 8);
        due.are("grid 1, line 1", Ask.items(x, 1, 3, 1), 8, 9, NO);
        due.are("another line", Ask.items(x, 1, 3, 0), 0, NO);
        x.line(0, 0, 13);
        due.is("MISSING at one place alone", x.size(0, 1), 2);
        x.line(0, 1, 1);
        due.are("a new one at one place alone", Ask.items(x, 1, 3, 1), 8, 9, NO);
        x.reader(false, 1, 3, 0, 9);
        x.run(9);
        due.is("read where it stands", x.answer(0), 17);
    }

    private static void numbers() {
        due.sentence("of FLOATS and DOUBLES 4 times what it is, cut off to a whole number (as Java casts to a long); of others it.");
        long[] given = {0, 1, 2, 3, 4, 5, -1, -3, -5, Long.MAX_VALUE, Long.MIN_VALUE};
        long[] want = {0, 1, 2, 3, 4, 5, -1, -3, -5, Long.MAX_VALUE, Long.MIN_VALUE};
        for (int kind = 3; kind < 6; kind++) {
            GeoThreads x = withGrid(kind, 1, 1);
            for (int i = 0; i < given.length; i++) {
                x.put(0, 0, 0, given[i]);
                due.is("number of " + given[i] + ", kind " + kind, x.item(0, kind, 0, 0), want[i]);
            }
        }
        GeoThreads x = withGrid(4, 1, 1);
        x.put(0, 0, 0, 16777217);
        due.is("a float has 24 bits", x.item(0, 4, 0, 0), 16777216);
        x.put(0, 0, 0, Long.MAX_VALUE - 1);
        due.is("2 to the 63rd as a long, from a float", x.item(0, 4, 0, 0), Long.MAX_VALUE);
        GeoThreads y = withGrid(5, 1, 1);
        y.put(0, 0, 0, 9007199254740993L);
        due.is("a double has 53 bits", y.item(0, 5, 0, 0), 9007199254740992L);
        y.put(0, 0, 0, Long.MAX_VALUE - 1);
        due.is("2 to the 63rd as a long, from a double", y.item(0, 5, 0, 0), Long.MAX_VALUE);
    }

    /** The sum of one item's worth, as a reader tells it. */
    private static long worth(int kind, long v) {
        GeoThreads x = withGrid(kind, 1, 1);
        x.put(0, 0, 0, v);
        x.reader(false, 0, kind, 0, 2);
        x.run(9);
        return x.answer(0);
    }

    private static void worths() {
        due.sentence("its NUMBER, if that is above 0, 1000000 at most; else 0.");
        for (int kind = 2; kind < 6; kind++) {
            due.is("-1", worth(kind, -1), 0);
            due.is("0", worth(kind, 0), 0);
            due.is("1", worth(kind, 1), 1);
            due.is("999999", worth(kind, 999999), 999999);
            due.is("1000000", worth(kind, 1000000), 1000000);
            due.is("1000001", worth(kind, 1000001), 1000000);
            due.is("-1000001", worth(kind, -1000001), 0);
        }
        due.is("a byte that went below 0", worth(0, 128), 0);
        due.is("the greatest byte", worth(0, 127), 127);
        due.is("a short that went below 0", worth(1, 32768), 0);
        due.is("the greatest short", worth(1, 32767), 32767);
        due.is("an int that went below 0", worth(2, 1L << 31), 0);
        due.is("the greatest int", worth(2, MOST), 1000000);
        for (int kind = 3; kind < 6; kind++) {
            due.is("the greatest long", worth(kind, Long.MAX_VALUE), 1000000);
            due.is("the least long", worth(kind, Long.MIN_VALUE), 0);
        }
    }

    private static void faultNumbers() {
        due.sentence("A call that meets one changes nothing, and answers -10 less its number.");
        told.unchanged("grid, SIZE", x -> x.grid(0, -1, 0), -15);
        told.unchanged("line, SIZE", x -> x.line(0, 0, -1), -15);
        told.unchanged("line, INDEX", x -> x.line(0, 3, 1), -12);
        told.unchanged("put, INDEX of the line", x -> x.put(0, 3, 0, 1), -12);
        told.unchanged("put, NULL", x -> x.put(0, 1, 0, 1), -11);
        told.unchanged("put, INDEX of the item", x -> x.put(0, 0, 2, 1), -12);
        told.unchanged("lay, INDEX of j", x -> x.lay(0, 0, 0, 3), -12);
        told.unchanged("lay, INDEX of i", x -> x.lay(0, 3, 0, 0), -12);
        told.unchanged("lay, STORE", x -> x.lay(0, 0, 1, 0), -14);
        told.unchanged("size, INDEX", x -> x.size(0, 3), -12);
        told.unchanged("size, NULL", x -> x.size(0, 1), -11);
    }

    private static void newThreads() {
        due.sentence("So many THREADS (1 .. 6; below: 1, above: 6)");
        int[] given = {LEAST, -1, 0, 1, 2, 5, 6, 7, MOST};
        int[] want = {1, 1, 1, 1, 2, 5, 6, 6, 6};
        for (int i = 0; i < given.length; i++) {
            GeoThreads x = new GeoThreads(given[i], 0);
            due.is(given[i] + ": the last thread", x.finished(want[i] - 1), 0);
            due.is(given[i] + ": none behind it", x.finished(want[i]), BAD);
            due.is(given[i] + ": no turn for one", x.turn(want[i]), BAD);
            for (int task = 0; task < 8; task++) x.way(false, 9, 1, 0, 0, 9);
            x.run(want[i]);
            due.is(given[i] + ": each takes a task", x.count(7), want[i]);
            x.run(1);
            due.is(given[i] + ": then thread 0 goes on", x.told(0, 3), 1);
        }
    }

    private static void newMemory() {
        due.sentence("all MEMORY (0 .. 1000; below: 0, above: 1000).");
        int[] given = {LEAST, -1, 0, 1, 999, 1000, 1001, MOST};
        int[] want = {0, 0, 0, 1, 999, 1000, 1000, 1000};
        for (int i = 0; i < given.length; i++) {
            GeoThreads x = new GeoThreads(1, given[i]);
            due.is(given[i] + ": free", x.count(5), want[i]);
            due.is(given[i] + ": above all", x.way(false, 1, 1, 0, want[i] + 1, 1), BAD);
            due.is(given[i] + ": all", x.way(false, 1, 1, 0, want[i], 1), 0);
            x.run(1);
            due.is(given[i] + ": none is left", x.count(5), 0);
        }
    }

    private static void gridSizes() {
        due.sentence("A GRID of n LINES (12 at most) of m ITEMS each (12 at most; 13: all MISSING), 0 at first: its number.");
        for (int n = 0; n <= 12; n += 12) {
            for (int m = 0; m <= 12; m += 12) {
                GeoThreads x = new GeoThreads(1, 0);
                due.is("grid of " + n + ", " + m, x.grid(1, n, m), 0);
                due.is("its lines", x.size(0, -1), n);
                for (int i = 0; i < n; i++) due.are("line " + i, Ask.items(x, 0, 1, i), zerosThenNo(m));
                due.is("no line behind the last", x.size(0, n), INDEX);
            }
            GeoThreads y = new GeoThreads(1, 0);
            due.is("grid of " + n + ", 13", y.grid(5, n, 13), 0);
            due.is("its lines", y.size(0, -1), n);
            for (int i = 0; i < n; i++) due.is("MISSING " + i, y.size(0, i), NULL);
        }
        GeoThreads x = new GeoThreads(1, 0);
        due.is("n 13", x.grid(0, 13, 0), BAD);
        due.is("n the greatest", x.grid(0, MOST, 0), BAD);
        due.is("m 14", x.grid(0, 0, 14), BAD);
        due.is("m the greatest", x.grid(0, 0, MOST), BAD);
        due.is("no grid by these", x.count(0), 0);
        x.grid(2, 2, 1);
        x.put(0, 0, 0, 5);
        due.is("each line is one of its own", x.item(0, 2, 1, 0), 0);
    }

    private static long[] zerosThenNo(int m) {
        long[] row = new long[m + 1];
        row[m] = NO;
        return row;
    }

    private static void gridRefused() {
        due.sentence("BAD; STATE; FULL; SIZE (n, or m, is below 0).");
        told.unchanged("BAD kind", x -> x.grid(6, 1, 1), BAD);
        told.unchanged("BAD ahead of SIZE of m", x -> x.grid(0, 13, -1), BAD);
        told.unchanged("BAD ahead of SIZE of n", x -> x.grid(0, -1, 14), BAD);
        told.unchanged("BAD kind ahead of SIZE", x -> x.grid(-1, -1, -1), BAD);
        told.unchanged("SIZE of n", x -> x.grid(0, -1, 0), SIZE);
        told.unchanged("SIZE of m", x -> x.grid(0, 0, -1), SIZE);
        told.unchanged("SIZE of m, no lines", x -> x.grid(0, 0, LEAST), SIZE);
        told.unchanged("SIZE of n, MISSING ones", x -> x.grid(0, LEAST, 13), SIZE);
        open.unchanged("STATE", x -> x.grid(0, 1, 1), STATE);
        open.unchanged("STATE ahead of SIZE", x -> x.grid(0, -1, 1), STATE);
        open.unchanged("BAD ahead of STATE", x -> x.grid(0, 13, 1), BAD);
        Twins full = new Twins(due, Made::withSixGrids);
        full.unchanged("FULL", x -> x.grid(0, 1, 1), FULL);
        full.unchanged("FULL ahead of SIZE", x -> x.grid(0, -1, -1), FULL);
        full.unchanged("BAD ahead of FULL", x -> x.grid(6, 1, 1), BAD);
        Twins fullAndOpen = new Twins(due, () -> Made.opened(Made.withSixGrids()));
        fullAndOpen.unchanged("STATE ahead of FULL", x -> x.grid(0, 1, 1), STATE);
        due.is("over: not refused", Made.over().grid(0, 1, 1), 2);
        due.is("closed: not refused", Made.closed().grid(0, 1, 1), 2);
    }

    private static void lineSizes() {
        due.sentence("A LINE becomes a new one of m ITEMS (12 at most; 13: MISSING): m.");
        GeoThreads x = withGrid(0, 2, 3);
        Ask.fill(x, 0, 0, 1, 2, 3);
        Ask.fill(x, 0, 1, 4, 5, 6);
        due.is("3 once more", x.line(0, 0, 3), 3);
        due.are("new ones", Ask.items(x, 0, 0, 0), 0, 0, 0, NO);
        due.is("12", x.line(0, 0, 12), 12);
        due.are("its items", Ask.items(x, 0, 0, 0), zerosThenNo(12));
        due.is("0", x.line(0, 0, 0), 0);
        due.are("its items", Ask.items(x, 0, 0, 0), NO);
        due.is("13", x.line(0, 0, 13), 13);
        due.is("MISSING", x.size(0, 0), NULL);
        due.is("13 of a MISSING one", x.line(0, 0, 13), 13);
        due.is("1 of a MISSING one", x.line(0, 0, 1), 1);
        due.are("its items", Ask.items(x, 0, 0, 0), 0, NO);
        due.are("the other line", Ask.items(x, 0, 0, 1), 4, 5, 6, NO);
        due.is("the last line", x.line(0, 1, 1), 1);
        due.is("14", x.line(0, 0, 14), BAD);
        due.is("the greatest", x.line(0, 0, MOST), BAD);
    }

    private static void lineRefused() {
        due.sentence("BAD; STATE; SIZE, then INDEX.");
        told.unchanged("BAD: no such grid", x -> x.line(2, 0, 1), BAD);
        told.unchanged("BAD: grid -1", x -> x.line(-1, 0, 1), BAD);
        told.unchanged("BAD: the greatest grid", x -> x.line(MOST, 0, 1), BAD);
        told.unchanged("BAD ahead of SIZE", x -> x.line(2, 0, -1), BAD);
        told.unchanged("BAD ahead of INDEX", x -> x.line(0, 3, 14), BAD);
        told.unchanged("SIZE", x -> x.line(0, 0, -1), SIZE);
        told.unchanged("SIZE ahead of INDEX", x -> x.line(0, 3, LEAST), SIZE);
        told.unchanged("INDEX behind the last", x -> x.line(0, 3, 0), INDEX);
        told.unchanged("INDEX -1", x -> x.line(0, -1, 0), INDEX);
        told.unchanged("INDEX, MISSING", x -> x.line(0, 3, 13), INDEX);
        told.unchanged("INDEX, the greatest", x -> x.line(0, MOST, 12), INDEX);
        told.unchanged("INDEX, the least", x -> x.line(0, LEAST, 12), INDEX);
        open.unchanged("STATE", x -> x.line(0, 0, 1), STATE);
        open.unchanged("STATE ahead of SIZE", x -> x.line(0, 0, -1), STATE);
        open.unchanged("STATE ahead of INDEX", x -> x.line(0, 3, 1), STATE);
        open.unchanged("BAD ahead of STATE", x -> x.line(0, 0, 14), BAD);
        open.unchanged("BAD grid ahead of STATE", x -> x.line(2, 0, 1), BAD);
        due.is("INDEX of a grid without lines", withGrid(0, 0, 5).line(0, 0, 5), INDEX);
        due.is("over: not refused", Made.over().line(0, 0, 1), 1);
        due.is("closed: not refused", Made.closed().line(0, 0, 1), 1);
    }

    private static void putCasts() {
        due.sentence("An ITEM becomes v, as Java casts it (FLOATS, DOUBLES: v as one of these, / 4): 1.");
        putIs(0, 127, 127);
        putIs(0, 128, -128);
        putIs(0, -128, -128);
        putIs(0, -129, 127);
        putIs(0, 256, 0);
        putIs(1, 32767, 32767);
        putIs(1, 32768, -32768);
        putIs(1, -32769, 32767);
        putIs(1, 65536, 0);
        putIs(2, 2147483647L, 2147483647L);
        putIs(2, 2147483648L, -2147483648L);
        putIs(2, -2147483649L, 2147483647L);
        putIs(2, 4294967296L, 0);
        putIs(3, Long.MAX_VALUE, Long.MAX_VALUE);
        putIs(3, Long.MIN_VALUE + 1, Long.MIN_VALUE + 1);
        putIs(3, Long.MIN_VALUE, Long.MIN_VALUE);
        putIs(4, 16777216, 16777216);
        putIs(4, 16777217, 16777216);
        putIs(4, 16777219, 16777220);
        putIs(4, -16777217, -16777216);
        putIs(5, 9007199254740993L, 9007199254740992L);
        putIs(5, 9007199254740995L, 9007199254740996L);
        putIs(5, 16777217, 16777217);
        for (int kind = 0; kind < 3; kind++) {
            putIs(kind, Long.MAX_VALUE, -1);
            putIs(kind, Long.MIN_VALUE, 0);
        }
        GeoThreads x = withGrid(3, 12, 12);
        due.is("the last item of the last line", x.put(0, 11, 11, 5), 1);
        due.is("is", x.item(0, 3, 11, 11), 5);
        due.is("the one ahead of it is as it was", x.item(0, 3, 11, 10), 0);
        due.is("put once more", x.put(0, 11, 11, -6), 1);
        due.is("is", x.item(0, 3, 11, 11), -6);
    }

    private static void putIs(int kind, long v, long number) {
        GeoThreads x = withGrid(kind, 1, 1);
        due.is("put of " + v, x.put(0, 0, 0, v), 1);
        due.is(v + " as kind " + kind, x.item(0, kind, 0, 0), number);
    }

    private static void putRefused() {
        due.sentence("BAD; STATE; INDEX of the LINE, NULL, INDEX of the ITEM.");
        told.unchanged("BAD: no such grid", x -> x.put(2, 0, 0, 1), BAD);
        told.unchanged("BAD: grid -1", x -> x.put(-1, 0, 0, 1), BAD);
        told.unchanged("BAD ahead of INDEX", x -> x.put(LEAST, 9, 9, 1), BAD);
        told.unchanged("INDEX of the line, behind", x -> x.put(0, 3, 0, 1), INDEX);
        told.unchanged("INDEX of the line, below", x -> x.put(0, -1, 0, 1), INDEX);
        told.unchanged("INDEX of the line, far off", x -> x.put(0, MOST, LEAST, 1), INDEX);
        told.unchanged("NULL", x -> x.put(0, 1, 0, 1), NULL);
        told.unchanged("NULL ahead of INDEX of the item", x -> x.put(0, 1, 2, 1), NULL);
        told.unchanged("INDEX of the item, behind", x -> x.put(0, 0, 2, 1), INDEX);
        told.unchanged("INDEX of the item, below", x -> x.put(0, 0, -1, 1), INDEX);
        told.unchanged("INDEX of the item, far off", x -> x.put(0, 0, LEAST, 1), INDEX);
        open.unchanged("STATE", x -> x.put(0, 0, 0, 1), STATE);
        open.unchanged("STATE ahead of INDEX", x -> x.put(0, 3, 0, 1), STATE);
        open.unchanged("STATE ahead of NULL", x -> x.put(0, 1, 0, 1), STATE);
        open.unchanged("STATE ahead of INDEX of the item", x -> x.put(0, 0, 2, 1), STATE);
        open.unchanged("BAD ahead of STATE", x -> x.put(2, 0, 0, 1), BAD);
        due.is("INDEX of a line without items", withGrid(0, 1, 0).put(0, 0, 0, 1), INDEX);
        due.is("INDEX of a grid without lines", withGrid(0, 0, 1).put(0, 0, 0, 1), INDEX);
        due.is("over: not refused", Made.over().put(0, 0, 0, 1), 1);
        due.is("closed: not refused", Made.closed().put(0, 0, 0, 1), 1);
    }

    private static void itemTaken() {
        due.sentence("THE NUMBER of an ITEM of a GRID taken as a KIND.");
        GeoThreads x = withGrid(3, 12, 12);
        x.put(0, 0, 0, 7);
        x.put(0, 11, 11, Long.MIN_VALUE + 1);
        due.is("the first", x.item(0, 3, 0, 0), 7);
        due.is("the last", x.item(0, 3, 11, 11), Long.MIN_VALUE + 1);
        x.put(0, 11, 11, Long.MIN_VALUE);
        due.is("one that is what NO is", x.item(0, 3, 11, 11), NO);
        open.unchanged("while a run is OPEN", y -> y.item(0, 2, 0, 1), 6);
    }

    private static void itemRefused() {
        due.sentence("NO: BAD, CAST, INDEX of the LINE, NULL, INDEX of the ITEM.");
        told.unchanged("BAD: no such grid", x -> x.item(2, 2, 0, 0), NO);
        told.unchanged("BAD: grid -1", x -> x.item(-1, 2, 0, 0), NO);
        told.unchanged("BAD: the least grid", x -> x.item(LEAST, 2, 0, 0), NO);
        told.unchanged("BAD: kind -1", x -> x.item(0, -1, 0, 0), NO);
        told.unchanged("BAD: kind 6", x -> x.item(0, 6, 0, 0), NO);
        told.unchanged("CAST, a kind below", x -> x.item(0, 1, 0, 0), NO);
        told.unchanged("CAST, a kind above", x -> x.item(0, 3, 0, 0), NO);
        told.unchanged("INDEX of the line, behind", x -> x.item(0, 2, 3, 0), NO);
        told.unchanged("INDEX of the line, below", x -> x.item(0, 2, -1, 0), NO);
        told.unchanged("INDEX of the line, far off", x -> x.item(0, 2, MOST, 0), NO);
        told.unchanged("NULL", x -> x.item(0, 2, 1, 0), NO);
        told.unchanged("INDEX of the item, behind", x -> x.item(0, 2, 0, 2), NO);
        told.unchanged("INDEX of the item, below", x -> x.item(0, 2, 0, -1), NO);
        told.unchanged("INDEX of the item, far off", x -> x.item(0, 2, 0, LEAST), NO);
        due.is("a line without items", withGrid(0, 1, 0).item(0, 0, 0, 0), NO);
        due.is("a grid without lines", withGrid(0, 0, 1).item(0, 0, 0, 0), NO);
        due.is("no grid at all", new GeoThreads(1, 0).item(0, 0, 0, 0), NO);
    }

    private static void layAnswers() {
        due.sentence("LINE i of a GRID becomes what is at LINE j of another one (or itself): 1; 0: MISSING.");
        GeoThreads x = withGrid(2, 3, 1);
        x.grid(2, 2, 2);
        Ask.fill(x, 1, 1, 4, 5);
        due.is("of another one", x.lay(0, 2, 1, 1), 1);
        due.are("its items", Ask.items(x, 0, 2, 2), 4, 5, NO);
        due.is("of itself", x.lay(0, 0, 0, 2), 1);
        due.are("its items", Ask.items(x, 0, 2, 0), 4, 5, NO);
        due.is("onto itself", x.lay(0, 0, 0, 0), 1);
        due.are("its items", Ask.items(x, 0, 2, 0), 4, 5, NO);
        due.are("between them", Ask.items(x, 0, 2, 1), 0, NO);
        x.line(1, 0, 13);
        due.is("MISSING", x.lay(0, 2, 1, 0), 0);
        due.is("is MISSING", x.size(0, 2), NULL);
        due.is("MISSING onto itself", x.lay(1, 0, 1, 0), 0);
        due.is("onto a MISSING one", x.lay(1, 0, 0, 0), 1);
        due.are("its items", Ask.items(x, 1, 2, 0), 4, 5, NO);
        x.line(0, 1, 0);
        due.is("one without items", x.lay(1, 0, 0, 1), 1);
        due.are("its items", Ask.items(x, 1, 2, 0), NO);
    }

    private static void layRefused() {
        due.sentence("BAD; STATE; INDEX (j, then i); STORE (what is MISSING fits all).");
        told.unchanged("BAD: no such grid", x -> x.lay(2, 0, 0, 0), BAD);
        told.unchanged("BAD: no such other", x -> x.lay(0, 0, 2, 0), BAD);
        told.unchanged("BAD: grid -1", x -> x.lay(-1, 0, 0, 0), BAD);
        told.unchanged("BAD: other -1", x -> x.lay(0, 0, -1, 0), BAD);
        told.unchanged("BAD ahead of INDEX", x -> x.lay(0, 3, 2, 9), BAD);
        told.unchanged("INDEX j behind", x -> x.lay(0, 0, 0, 3), INDEX);
        told.unchanged("INDEX j below", x -> x.lay(0, 0, 0, -1), INDEX);
        told.unchanged("INDEX i behind", x -> x.lay(0, 3, 0, 0), INDEX);
        told.unchanged("INDEX i below", x -> x.lay(0, -1, 0, 0), INDEX);
        told.unchanged("INDEX i of what is MISSING", x -> x.lay(0, 3, 0, 1), INDEX);
        told.unchanged("INDEX j ahead of STORE", x -> x.lay(0, 0, 1, 1), INDEX);
        told.unchanged("INDEX i ahead of STORE", x -> x.lay(0, 3, 1, 0), INDEX);
        told.unchanged("STORE", x -> x.lay(0, 0, 1, 0), STORE);
        told.unchanged("STORE onto a MISSING one", x -> x.lay(0, 1, 1, 0), STORE);
        told.unchanged("STORE the other way round", x -> x.lay(1, 0, 0, 0), STORE);
        open.unchanged("STATE", x -> x.lay(0, 0, 0, 2), STATE);
        open.unchanged("STATE ahead of INDEX", x -> x.lay(0, 3, 0, 3), STATE);
        open.unchanged("STATE ahead of STORE", x -> x.lay(0, 0, 1, 0), STATE);
        open.unchanged("BAD ahead of STATE", x -> x.lay(0, 0, 2, 0), BAD);
        due.is("over: not refused", Made.over().lay(0, 0, 0, 2), 1);
        due.is("closed: not refused", Made.closed().lay(0, 0, 0, 2), 1);
        GeoThreads x = Made.told();
        due.is("what is MISSING fits another kind", x.lay(1, 0, 0, 1), 0);
        due.is("is MISSING", x.size(1, 0), NULL);
        due.is("and back", x.lay(0, 0, 1, 0), 0);
        GeoThreads y = withGrid(0, 1, 0);
        y.grid(1, 1, 0);
        due.is("STORE of one without items", y.lay(0, 0, 1, 0), STORE);
    }

    private static void sizes() {
        due.sentence("How many LINES a GRID has (i = -1), how many ITEMS a LINE.");
        due.is("no lines", withGrid(0, 0, 5).size(0, -1), 0);
        due.is("12 lines", withGrid(0, 12, 0).size(0, -1), 12);
        due.is("lines that are MISSING", withGrid(0, 12, 13).size(0, -1), 12);
        due.is("no items", withGrid(0, 12, 0).size(0, 11), 0);
        due.is("12 items", withGrid(0, 12, 12).size(0, 11), 12);
        open.unchanged("lines while a run is OPEN", x -> x.size(0, -1), 3);
        open.unchanged("items while a run is OPEN", x -> x.size(0, 0), 2);
    }

    private static void sizeRefused() {
        due.sentence("BAD; INDEX, NULL.");
        told.unchanged("BAD: no such grid", x -> x.size(2, -1), BAD);
        told.unchanged("BAD: grid -1", x -> x.size(-1, -1), BAD);
        told.unchanged("BAD ahead of INDEX", x -> x.size(LEAST, 9), BAD);
        told.unchanged("INDEX behind the last", x -> x.size(0, 3), INDEX);
        told.unchanged("INDEX -2", x -> x.size(0, -2), INDEX);
        told.unchanged("INDEX, the least", x -> x.size(0, LEAST), INDEX);
        told.unchanged("INDEX, the greatest", x -> x.size(0, MOST), INDEX);
        told.unchanged("NULL", x -> x.size(0, 1), NULL);
        due.is("INDEX of no lines", withGrid(0, 0, 13).size(0, 0), INDEX);
    }
}
