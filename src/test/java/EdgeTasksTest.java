/** The boundary cases of promises 8 to 12, and of how tasks, searches and the schedule are told: a test for each sentence. */
public final class EdgeTasksTest {
    private static final int BAD = GeoThreads.BAD, STATE = GeoThreads.STATE, FULL = GeoThreads.FULL;
    private static final int NONE = GeoThreads.NONE;
    private static final long NO = GeoThreads.NO;
    private static final int LEAST = Integer.MIN_VALUE, MOST = Integer.MAX_VALUE;
    private static final Due due = new Due();
    private static final Twins told = new Twins(due, Made::told);
    private static final Twins open = new Twins(due, Made::open);
    private static final Twins full = new Twins(due, Made::withTwentyTasks);
    private static final Twins fullAndOpen = new Twins(due, () -> Made.opened(Made.withTwentyTasks()));

    public static void main(String[] args) {
        calls512();
        twentyTasks();
        eightSearches();
        stateWhileOpen();
        wayParts();
        wayAnswers();
        wayFails();
        wayRefused();
        readerRefused();
        searchNumbers();
        searchRefused();
        shareLines();
        shareRefused();
        turnAnswers();
        turnRefused();
        due.end();
    }

    private static void calls512() {
        due.sentence("An object is used for at most 512 calls after it has been made; what later calls answer is free.");
        GeoThreads x = new GeoThreads(6, 1000);
        int calls = 0;
        for (; calls < 400; calls++) due.is("turn", x.turn(calls % 6), calls + 1);
        for (; calls < 420; calls++) due.is("way", x.way(false, 100000, calls, 0, 50, 1000), calls - 400);
        for (; calls < 510; calls++) due.is("run", x.run(260), 0);
        due.is("turns", x.count(3), 90 * 260);
        due.is("call 512", x.run(1000), 2);
        int[] odd = {LEAST, -1, 0, 1, MOST};
        for (int a : odd) {
            for (int b : odd) everyCall(x, a, b);
        }
        due.is("later ones may answer as they like, but do not throw", 1, 1);
    }

    private static void everyCall(GeoThreads x, int a, int b) {
        x.grid(a, b, b);
        x.line(a, b, b);
        x.put(a, b, a, b);
        x.item(a, b, a, b);
        x.lay(a, b, b, a);
        x.size(a, b);
        x.way(true, a, b, a, b, a);
        x.reader(true, a, b, a, b);
        x.search(a, b, a, b);
        x.share(a, b, a, b, b);
        x.turn(a);
        x.run(b);
        x.interrupt(a);
        x.close();
        x.anew();
        x.taken();
        x.answer(a);
        x.told(a, b);
        x.best(a, b);
        x.note(a);
        x.finished(a);
        x.count(a);
        x.equal(a);
    }

    private static void twentyTasks() {
        due.sentence("TASKS (20 at most) are numbered from 0 on as they are told; each has a NEED of MEMORY and a BUDGET.");
        GeoThreads x = new GeoThreads(1, 0);
        x.grid(0, 1, 1);
        x.search(0, 0, 1, 1);
        for (int i = 0; i < 20; i += 4) {
            due.is("way", x.way(false, 1, 1, 1, 0, 1), i);
            due.is("reader", x.reader(false, 0, 1, 0, 1), i + 1);
            due.is("share", x.share(0, 0, 0, 0, 1), i + 2);
            due.is("doubling", x.way(true, 1, 1, 1, 0, 1), i + 3);
        }
        due.is("way 20", x.way(false, 1, 1, 1, 0, 1), FULL);
        due.is("reader 20", x.reader(false, 0, 0, 0, 1), FULL);
        due.is("share 20", x.share(0, 0, 0, 0, 1), FULL);
        due.is("how many", x.count(1), 20);
        due.is("there is none behind the last", x.told(20, 0), BAD);
        due.is("run", x.run(1000), 2);
        due.is("each was taken, and ended", x.count(7), 40);
        due.is("FULL behind the run", x.way(false, 1, 1, 1, 0, 1), FULL);
        due.is("anew", x.anew(), 20);
        due.is("FULL behind anew()", x.way(false, 1, 1, 1, 0, 1), FULL);
    }

    private static void eightSearches() {
        due.sentence("SEARCHES (8 at most): through a GRID as a KIND, with a DIVISOR and a LIMIT");
        GeoThreads x = new GeoThreads(1, 0);
        x.grid(0, 1, 1);
        x.put(0, 0, 0, 70);
        for (int i = 0; i < 8; i++) due.is("search " + i, x.search(0, 0, i + 1, 100), i);
        due.is("search 8", x.search(0, 0, 1, 100), FULL);
        due.is("how many", x.count(2), 8);
        for (int i = 0; i < 8; i++) x.share(i, 0, 1, 0, 1);
        due.is("a share of none", x.share(8, 0, 1, 0, 1), BAD);
        x.run(1000);
        for (int i = 0; i < 8; i++) due.is("its best " + i, x.best(i, 0), 70 / (i + 1));
        due.is("best of none", x.best(8, 0), BAD);
        due.is("FULL behind the run", x.search(0, 0, 1, 100), FULL);
    }

    private static void stateWhileOpen() {
        due.sentence("STATE (a run is OPEN: all that tells GRIDS, TASKS, SEARCHES, THE SCHEDULE; or as told)");
        open.unchanged("grid", x -> x.grid(0, 1, 1), STATE);
        open.unchanged("line", x -> x.line(0, 0, 1), STATE);
        open.unchanged("put", x -> x.put(0, 0, 0, 9), STATE);
        open.unchanged("lay", x -> x.lay(0, 0, 0, 2), STATE);
        open.unchanged("way", x -> x.way(false, 1, 1, 0, 0, 1), STATE);
        open.unchanged("reader", x -> x.reader(false, 0, 2, 0, 1), STATE);
        open.unchanged("search", x -> x.search(0, 2, 1, 1), STATE);
        open.unchanged("share", x -> x.share(0, 0, 1, 0, 1), STATE);
        open.unchanged("turn", x -> x.turn(0), STATE);
        notRefused(Made.told(), 0);
        notRefused(Made.over(), 2);
        notRefused(Made.closed(), 3);
        GeoThreads x = Made.open();
        x.anew();
        notRefused(x, 0);
    }

    /** All that tells something, while no run is OPEN. */
    private static void notRefused(GeoThreads x, int run) {
        due.is("what the run is", x.count(8), run);
        due.is("grid", x.grid(0, 1, 1), 2);
        due.is("line", x.line(2, 0, 3), 3);
        due.is("put", x.put(2, 0, 2, 9), 1);
        due.is("lay", x.lay(2, 0, 2, 0), 1);
        due.is("search", x.search(2, 0, 1, 9), 1);
        due.is("way", x.way(false, 1, 5, 1, 0, 1), 3);
        due.is("reader", x.reader(false, 2, 0, 0, 9), 4);
        due.is("share", x.share(1, 0, 1, 0, 1), 5);
        due.is("turn", x.turn(1), 2);
        due.are("the new ones WAIT", new long[] {x.told(3, 1), x.told(4, 1), x.told(5, 1)}, 0, 0, 0);
        due.are("no best so far", Ask.best(x, 1), NO, NONE, 9, 0);
        due.is("what the run is, still", x.count(8), run);
    }

    private static GeoThreads ranOne(boolean doubles, int parts, long answer, int fails, int budget) {
        GeoThreads x = new GeoThreads(1, 0);
        x.way(doubles, parts, answer, fails, 0, budget);
        x.run(1000);
        x.run(1000);
        return x;
    }

    private static void wayParts() {
        due.sentence("of so many PARTS (1 .. 100000)");
        told.unchanged("parts 0", x -> x.way(false, 0, 1, 0, 0, 1), BAD);
        told.unchanged("parts -1", x -> x.way(true, -1, 1, 0, 0, 1), BAD);
        told.unchanged("parts 100001", x -> x.way(false, 100001, 1, 0, 0, 1), BAD);
        told.unchanged("the least", x -> x.way(true, LEAST, 1, 0, 0, 1), BAD);
        told.unchanged("the greatest", x -> x.way(true, MOST, 1, 0, 0, 1), BAD);
        due.is("one part", ranOne(false, 1, 7, 0, 1).answer(0), 7);
        due.is("one part, doubling", ranOne(true, 1, 7, 0, 1).answer(0), 7);
        due.are("100000 parts: 1000 of them", Ask.told(ranOne(false, 100000, 7, 0, 1000), 0), 0, 4, 0, 1000, 1001, 1000, 0, 0, 10);
        due.are("100000 parts, doubling", Ask.told(ranOne(true, 100000, 7, 0, 17), 0), 1, 2, 0, 17, 18, 100000, 0, 0, 11);
    }

    private static void wayAnswers() {
        due.sentence("that has an ANSWER (any but NO)");
        told.unchanged("NO", x -> x.way(false, 1, NO, 0, 0, 1), BAD);
        told.unchanged("NO, doubling", x -> x.way(true, 1, NO, 0, 0, 1), BAD);
        long[] any = {NO + 1, Long.MAX_VALUE, 0, -1, -9, LEAST};
        for (long answer : any) {
            due.is("plain", ranOne(false, 3, answer, 0, 9).answer(0), answer);
            due.is("doubling", ranOne(true, 3, answer, 0, 9).answer(0), answer);
        }
    }

    private static void wayFails() {
        due.sentence("whose PART number fails (from 1 on; 0, or above all PARTS: none) fails: its number.");
        int[] none = {0, 6, 7, 100001, MOST};
        for (int fails : none) {
            due.are("plain, " + fails, Ask.told(ranOne(false, 5, 1, fails, 9), 0), 0, 2, 0, 5, 6, 5, 0, 0, 10);
            due.are("doubling, " + fails, Ask.told(ranOne(true, 5, 1, fails, 9), 0), 1, 2, 0, 3, 4, 5, 0, 0, 11);
        }
        due.are("plain, 1", Ask.told(ranOne(false, 5, 1, 1, 9), 0), 0, 3, 7, 1, 2, 1, 0, 0, 10);
        due.are("plain, 5", Ask.told(ranOne(false, 5, 1, 5, 9), 0), 0, 3, 7, 5, 6, 5, 0, 0, 10);
        due.are("doubling, 1", Ask.told(ranOne(true, 5, 1, 1, 9), 0), 1, 3, 7, 1, 2, 1, 0, 0, 11);
        due.are("doubling, 5", Ask.told(ranOne(true, 5, 1, 5, 9), 0), 1, 3, 7, 3, 4, 5, 0, 0, 11);
        GeoThreads x = new GeoThreads(1, 0);
        for (int i = 0; i < 20; i++) due.is("its number", x.way(i % 2 == 0, 1, 1, 1, 0, 1), i);
    }

    private static void wayRefused() {
        due.sentence("BAD (fails below 0; NEED below 0, above all MEMORY; BUDGET not 1 .. 1000); STATE; FULL.");
        told.unchanged("fails -1", x -> x.way(false, 1, 1, -1, 0, 1), BAD);
        told.unchanged("fails the least", x -> x.way(true, 1, 1, LEAST, 0, 1), BAD);
        told.unchanged("need -1", x -> x.way(false, 1, 1, 0, -1, 1), BAD);
        told.unchanged("need the least", x -> x.way(false, 1, 1, 0, LEAST, 1), BAD);
        told.unchanged("need above all", x -> x.way(false, 1, 1, 0, 11, 1), BAD);
        told.unchanged("need the greatest", x -> x.way(false, 1, 1, 0, MOST, 1), BAD);
        told.unchanged("budget 0", x -> x.way(false, 1, 1, 0, 0, 0), BAD);
        told.unchanged("budget -1", x -> x.way(false, 1, 1, 0, 0, -1), BAD);
        told.unchanged("budget 1001", x -> x.way(false, 1, 1, 0, 0, 1001), BAD);
        due.is("need 0, budget 1", Made.told().way(false, 1, 1, 0, 0, 1), 3);
        due.is("need of all, budget 1000", Made.told().way(false, 1, 1, 0, 10, 1000), 3);
        open.unchanged("STATE", x -> x.way(false, 1, 1, 0, 0, 1), STATE);
        open.unchanged("BAD ahead of STATE", x -> x.way(false, 1, 1, 0, 0, 0), BAD);
        full.unchanged("FULL", x -> x.way(false, 1, 1, 0, 0, 1), FULL);
        full.unchanged("BAD ahead of FULL", x -> x.way(false, 1, 1, 0, 11, 1), BAD);
        fullAndOpen.unchanged("STATE ahead of FULL", x -> x.way(false, 1, 1, 0, 0, 1), STATE);
        // while a need is taken, what counts is still all memory
        GeoThreads x = new GeoThreads(1, 10);
        x.way(false, 9, 1, 0, 10, 9);
        x.run(1);
        due.is("all memory is taken: STATE", x.way(false, 1, 1, 0, 10, 1), STATE);
        due.is("above all memory: BAD", x.way(false, 1, 1, 0, 11, 1), BAD);
    }

    private static void readerRefused() {
        due.sentence("A READER (careful: a CAREFUL one) of a GRID as a KIND: its number. Refused as way().");
        told.unchanged("no such grid", x -> x.reader(false, 2, 2, 0, 1), BAD);
        told.unchanged("grid -1", x -> x.reader(true, -1, 2, 0, 1), BAD);
        told.unchanged("the greatest grid", x -> x.reader(true, MOST, 2, 0, 1), BAD);
        told.unchanged("kind -1", x -> x.reader(false, 0, -1, 0, 1), BAD);
        told.unchanged("kind 6", x -> x.reader(true, 0, 6, 0, 1), BAD);
        told.unchanged("need -1", x -> x.reader(false, 0, 2, -1, 1), BAD);
        told.unchanged("need above all", x -> x.reader(false, 0, 2, 11, 1), BAD);
        told.unchanged("budget 0", x -> x.reader(false, 0, 2, 0, 0), BAD);
        told.unchanged("budget 1001", x -> x.reader(false, 0, 2, 0, 1001), BAD);
        open.unchanged("STATE", x -> x.reader(false, 0, 2, 0, 1), STATE);
        open.unchanged("BAD ahead of STATE", x -> x.reader(false, 2, 2, 0, 1), BAD);
        full.unchanged("FULL", x -> x.reader(true, 0, 2, 0, 1), FULL);
        full.unchanged("BAD ahead of FULL", x -> x.reader(true, 0, 6, 0, 1), BAD);
        fullAndOpen.unchanged("STATE ahead of FULL", x -> x.reader(true, 0, 2, 0, 1), STATE);
        for (int kind = 0; kind < 6; kind++) due.is("any kind", Made.told().reader(false, 0, kind, 0, 1), 3);
        GeoThreads x = Made.told();
        due.is("need 0, budget 1", x.reader(false, 1, 4, 0, 1), 3);
        due.is("need of all, budget 1000", x.reader(true, 1, 4, 10, 1000), 4);
        due.are("a READER", Ask.told(x, 3), 2, 0, 0, 0, 0, 0, NONE, 0, 10);
        due.are("a CAREFUL one", Ask.told(x, 4), 3, 0, 0, 0, 0, 0, NONE, 0, 12);
    }

    private static void searchNumbers() {
        due.sentence("A SEARCH (DIVISOR 0 .. 100, LIMIT 0 or more): its number.");
        told.unchanged("divisor -1", x -> x.search(0, 2, -1, 0), BAD);
        told.unchanged("divisor 101", x -> x.search(0, 2, 101, 0), BAD);
        told.unchanged("divisor the least", x -> x.search(0, 2, LEAST, 0), BAD);
        told.unchanged("divisor the greatest", x -> x.search(0, 2, MOST, 0), BAD);
        told.unchanged("limit -1", x -> x.search(0, 2, 1, -1), BAD);
        told.unchanged("limit the least", x -> x.search(0, 2, 1, Long.MIN_VALUE), BAD);
        GeoThreads x = Made.told();
        due.is("divisor 0, limit 0", x.search(0, 2, 0, 0), 1);
        due.is("divisor 100, the greatest limit", x.search(1, 4, 100, Long.MAX_VALUE), 2);
        due.are("least", Ask.best(x, 1), NO, NONE, 0, 0);
        due.are("most", Ask.best(x, 2), NO, NONE, Long.MAX_VALUE, 0);
        x.put(1, 0, 0, 999);
        x.share(2, 0, 1, 0, 1);
        x.run(1000);
        due.are("by 100", Ask.best(x, 2), 9, 0, 9, 0);
    }

    private static void searchRefused() {
        due.sentence("its number. BAD; STATE; FULL.");
        Twins eight = new Twins(due, Made::withEightSearches);
        Twins eightAndOpen = new Twins(due, () -> Made.opened(Made.withEightSearches()));
        told.unchanged("no such grid", x -> x.search(2, 2, 1, 0), BAD);
        told.unchanged("grid -1", x -> x.search(-1, 2, 1, 0), BAD);
        told.unchanged("kind -1", x -> x.search(0, -1, 1, 0), BAD);
        told.unchanged("kind 6", x -> x.search(0, 6, 1, 0), BAD);
        open.unchanged("STATE", x -> x.search(0, 2, 1, 0), STATE);
        open.unchanged("BAD ahead of STATE", x -> x.search(0, 2, 101, 0), BAD);
        eight.unchanged("FULL", x -> x.search(0, 2, 1, 0), FULL);
        eight.unchanged("BAD ahead of FULL", x -> x.search(0, 2, 1, -1), BAD);
        eightAndOpen.unchanged("STATE ahead of FULL", x -> x.search(0, 2, 1, 0), STATE);
        for (int kind = 0; kind < 6; kind++) due.is("any kind", Made.told().search(0, kind, 1, 0), 1);
    }

    private static void shareLines() {
        due.sentence("A SHARE of a SEARCH, LINES from .. to - 1 (0 <= from <= to <= 20): its number.");
        told.unchanged("from -1", x -> x.share(0, -1, 1, 0, 1), BAD);
        told.unchanged("from the least", x -> x.share(0, LEAST, 1, 0, 1), BAD);
        told.unchanged("from above to", x -> x.share(0, 2, 1, 0, 1), BAD);
        told.unchanged("to 21", x -> x.share(0, 0, 21, 0, 1), BAD);
        told.unchanged("to -1", x -> x.share(0, 0, -1, 0, 1), BAD);
        told.unchanged("both -1", x -> x.share(0, -1, -1, 0, 1), BAD);
        told.unchanged("both 21", x -> x.share(0, 21, 21, 0, 1), BAD);
        told.unchanged("the greatest", x -> x.share(0, 0, MOST, 0, 1), BAD);
        GeoThreads x = new GeoThreads(1, 0);
        x.grid(2, 12, 1);
        x.search(0, 2, 1, 5);
        due.is("0 to 0", x.share(0, 0, 0, 0, 1), 0);
        due.is("20 to 20", x.share(0, 20, 20, 0, 1), 1);
        due.is("0 to 20", x.share(0, 0, 20, 0, 20), 2);
        due.is("11 to 12", x.share(0, 11, 12, 0, 1), 3);
        due.is("12 to 13", x.share(0, 12, 13, 0, 1), 4);
        x.run(1000);
        due.are("no line", Ask.told(x, 0), 4, 2, 0, 1, 2, 0, 0, 0, 30);
        due.are("no line", Ask.told(x, 1), 4, 2, 0, 1, 2, 0, 0, 0, 30);
        due.are("up to ahead of line 12", Ask.told(x, 2), 4, 3, 2, 13, 14, 12, 0, 8, 30);
        due.are("the last line of the grid", Ask.told(x, 3), 4, 2, 0, 1, 2, 1, 0, 0, 30);
        due.are("the line behind it", Ask.told(x, 4), 4, 3, 2, 1, 2, 0, 0, 1, 30);
    }

    private static void shareRefused() {
        due.sentence("(0 <= from <= to <= 20): its number. Refused as way().");
        told.unchanged("no such search", x -> x.share(1, 0, 1, 0, 1), BAD);
        told.unchanged("search -1", x -> x.share(-1, 0, 1, 0, 1), BAD);
        told.unchanged("the greatest search", x -> x.share(MOST, 0, 1, 0, 1), BAD);
        told.unchanged("need -1", x -> x.share(0, 0, 1, -1, 1), BAD);
        told.unchanged("need above all", x -> x.share(0, 0, 1, 11, 1), BAD);
        told.unchanged("budget 0", x -> x.share(0, 0, 1, 0, 0), BAD);
        told.unchanged("budget 1001", x -> x.share(0, 0, 1, 0, 1001), BAD);
        open.unchanged("STATE", x -> x.share(0, 0, 1, 0, 1), STATE);
        open.unchanged("BAD ahead of STATE", x -> x.share(0, 2, 1, 0, 1), BAD);
        full.unchanged("FULL", x -> x.share(0, 0, 1, 0, 1), FULL);
        full.unchanged("BAD ahead of FULL", x -> x.share(0, 0, 21, 0, 1), BAD);
        fullAndOpen.unchanged("STATE ahead of FULL", x -> x.share(0, 0, 1, 0, 1), STATE);
        GeoThreads x = Made.told();
        due.is("need 0, budget 1", x.share(0, 0, 1, 0, 1), 3);
        due.is("need of all, budget 1000", x.share(0, 0, 1, 10, 1000), 4);
    }

    private static void turnAnswers() {
        due.sentence("THE SCHEDULE has one TURN more, a THREAD's: how many.");
        GeoThreads x = new GeoThreads(6, 0);
        for (int i = 0; i < 20; i++) x.way(false, 9, 1, 0, 0, 9);
        int[] threads = {5, 0, 5, 4};
        for (int i = 0; i < threads.length; i++) due.is("the next", x.turn(threads[i]), i + 1);
        x.run(5);
        due.are("as they were told, then thread 0", Ask.notes(x), 51, 101, 241);
        due.is("thread 5 had a second turn", x.told(0, 3), 1);
        due.is("so had thread 0", x.told(1, 3), 1);
        x.close();
        due.is("closed: one more", x.turn(3), 5);
        x.anew();
        due.is("anew: one more", x.turn(3), 6);
        x.run(5);
        due.are("all of them again", Ask.notes(x), 51, 101, 241, 331);
    }

    private static void turnRefused() {
        due.sentence("how many. BAD; STATE; FULL (400).");
        told.unchanged("thread -1", x -> x.turn(-1), BAD);
        told.unchanged("thread 2 of 2", x -> x.turn(2), BAD);
        told.unchanged("the least", x -> x.turn(LEAST), BAD);
        told.unchanged("the greatest", x -> x.turn(MOST), BAD);
        open.unchanged("STATE", x -> x.turn(0), STATE);
        open.unchanged("BAD ahead of STATE", x -> x.turn(2), BAD);
        GeoThreads x = new GeoThreads(2, 0);
        for (int i = 1; i <= 399; i++) x.turn(1);
        due.is("the 400th", x.turn(1), 400);
        due.is("FULL", x.turn(1), FULL);
        due.is("BAD ahead of FULL", x.turn(2), BAD);
        x.way(false, 100000, 1, 0, 0, 1000);
        x.way(false, 100000, 1, 0, 0, 1000);
        due.is("OPEN", x.run(400), 0);
        due.is("STATE ahead of FULL", x.turn(1), STATE);
        due.are("all are thread 1's", Ask.told(x, 0), 0, 1, 0, 399, 400, 399, 1, 0, 10);
        x.run(1);
        due.are("turn 401 is thread 0's", Ask.notes(x), 11, 101);
        x.run(2);
        due.is("then thread 1's", x.told(0, 3), 400);
        due.is("then thread 0's", x.told(1, 3), 1);
    }
}
