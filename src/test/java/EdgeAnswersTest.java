/** The boundary cases of promises 17 to 24: a test for each sentence of the document that names some. */
public final class EdgeAnswersTest {
    private static final int BAD = GeoThreads.BAD, NONE = GeoThreads.NONE;
    private static final long NO = GeoThreads.NO;
    private static final int WAITS = 0, UNDER_WAY = 1, PROVED = 2, FAILED = 3, SPENT = 4, STOPPED = 5, INTERRUPTED = 6;
    private static final int LEAST = Integer.MIN_VALUE, MOST = Integer.MAX_VALUE;
    private static final Due due = new Due();
    private static final Twins told = new Twins(due, Made::told);
    private static final Twins open = new Twins(due, Made::open);
    private static final Twins over = new Twins(due, Made::over);
    private static final Twins closed = new Twins(due, Made::closed);

    public static void main(String[] args) {
        taken();
        answer();
        toldSortAndRank();
        toldOfARun();
        toldRefused();
        bestOfNone();
        bestLost();
        note();
        finished();
        countOfThings();
        countOfARun();
        countRefused();
        equalOfAll();
        equalBehindTheTaken();
        equalWithoutTheSchedule();
        equalUntouched();
        equalRefused();
        due.end();
    }

    /** A way of each end, in the order of the states: PROVED, FAILED, SPENT, STOPPED, INTERRUPTED; a share, PROVED. */
    private static GeoThreads eachEnd() {
        GeoThreads x = new GeoThreads(1, 0);
        x.grid(0, 1, 1);
        x.search(0, 0, 1, 1);
        x.way(false, 2, 12, 1, 0, 9);
        x.way(false, 2, 13, 0, 0, 1);
        x.way(false, 9, 16, 0, 0, 9);
        x.way(false, 2, 14, 0, 0, 9);
        x.way(false, 2, 15, 0, 0, 9);
        x.share(0, 0, 1, 0, 1);
        x.run(5);
        x.interrupt(2);
        x.run(1000);
        return x;
    }

    private static void taken() {
        due.sentence("The WAY that is TAKEN; NONE.");
        GeoThreads x = new GeoThreads(2, 0);
        due.is("a new one", x.taken(), NONE);
        x.run(1);
        due.is("over without tasks", x.taken(), NONE);
        GeoThreads y = new GeoThreads(1, 0);
        for (int i = 0; i < 19; i++) y.way(false, 1, i, 1, 0, 9);
        y.way(false, 1, 19, 0, 0, 9);
        y.run(1000);
        due.is("the last of 20", y.taken(), 19);
        GeoThreads z = new GeoThreads(1, 0);
        z.way(false, 1, 0, 0, 0, 9);
        z.run(1);
        due.is("UNDER WAY", z.taken(), NONE);
        z.run(1);
        due.is("the first one", z.taken(), 0);
        due.is("of each end", eachEnd().taken(), 3);
        GeoThreads u = new GeoThreads(1, 0);
        u.grid(0, 1, 1);
        u.search(0, 0, 1, 1);
        u.share(0, 0, 1, 0, 1);
        u.run(1000);
        due.is("a share is not", u.taken(), NONE);
        closed.unchanged("closed", GeoThreads::taken, NONE);
        over.unchanged("over", GeoThreads::taken, 1);
    }

    private static void answer() {
        due.sentence("The ANSWER of a WAY that is PROVED. NO.");
        GeoThreads x = eachEnd();
        due.are("states", Ask.states(x), FAILED, SPENT, INTERRUPTED, PROVED, STOPPED, PROVED);
        long[] want = {NO, NO, NO, 14, NO, NO};
        for (int i = 0; i < want.length; i++) due.is("answer " + i, x.answer(i), want[i]);
        due.is("WAITS", Made.told().answer(2), NO);
        due.is("UNDER WAY", Made.open().answer(1), NO);
        over.unchanged("of a reader", y -> y.answer(1), 18);
        told.unchanged("no such task", y -> y.answer(3), NO);
        over.unchanged("no such task", y -> y.answer(3), NO);
        over.unchanged("task -1", y -> y.answer(-1), NO);
        over.unchanged("the least", y -> y.answer(LEAST), NO);
        over.unchanged("the greatest", y -> y.answer(MOST), NO);
        due.is("no tasks", new GeoThreads(1, 0).answer(0), NO);
        GeoThreads z = new GeoThreads(2, 0);
        z.way(false, 9, 1, 0, 0, 9);
        z.way(false, 1, 2, 0, 0, 9);
        z.run(4);
        due.is("PROVED, not TAKEN", z.answer(1), 2);
    }

    private static void toldSortAndRank() {
        due.sentence("8 its RANK: 10, of a DOUBLING one 11, of a CAREFUL one 12, of a SHARE 30.");
        GeoThreads x = Made.told();
        x.way(false, 1, 1, 0, 0, 1);
        x.way(true, 1, 1, 0, 0, 1);
        x.reader(false, 0, 2, 0, 1);
        x.reader(true, 0, 2, 0, 1);
        x.share(0, 0, 0, 0, 1);
        int[] ranks = {10, 11, 10, 12, 30};
        for (int i = 0; i < 5; i++) {
            due.is("rank of sort " + i, x.told(3 + i, 8), ranks[i]);
            due.is("sort " + i, x.told(3 + i, 0), i);
        }
    }

    private static void toldOfARun() {
        due.sentence("Of a TASK: 0 its sort, 1 its STATE, 2 the FAULT by which it FAILED (0), 3 STEPS, 4 TURNS that it had (as it was taken, for each STEP, as it was left), 5 PARTS that it did, 6 its THREAD (NONE: none had it), 7 LINES that are LOST");
        GeoThreads x = eachEnd();
        due.are("FAILED", Ask.told(x, 0), 0, FAILED, 7, 1, 2, 1, 0, 0, 10);
        due.are("SPENT", Ask.told(x, 1), 0, SPENT, 0, 1, 2, 1, 0, 0, 10);
        due.are("INTERRUPTED: taken, left", Ask.told(x, 2), 0, INTERRUPTED, 0, 0, 2, 0, 0, 0, 10);
        due.are("PROVED", Ask.told(x, 3), 0, PROVED, 0, 2, 3, 2, 0, 0, 10);
        due.are("STOPPED: none had it", Ask.told(x, 4), 0, STOPPED, 0, 0, 0, 0, NONE, 0, 10);
        due.are("a share", Ask.told(x, 5), 4, PROVED, 0, 1, 2, 1, 0, 0, 30);
        GeoThreads y = Made.over();
        due.are("LOST of a share, its thread", Ask.told(y, 0), 4, FAILED, 1, 3, 4, 2, 1, 1, 30);
        due.are("LOST of a careful one, its thread", Ask.told(y, 1), 3, PROVED, 0, 6, 7, 4, 0, 1, 12);
        GeoThreads z = new GeoThreads(6, 0);
        z.way(false, 9, 1, 0, 0, 9);
        z.turn(5);
        due.is("at first none has it", z.told(0, 6), NONE);
        z.run(1);
        due.is("the last thread", z.told(0, 6), 5);
        due.is("one turn", z.told(0, 4), 1);
        z.run(5);
        due.is("turns of other threads are not its own", z.told(0, 4), 1);
    }

    private static void toldRefused() {
        due.sentence("of a SHARE 30. BAD.");
        told.unchanged("no such task", x -> x.told(3, 0), BAD);
        told.unchanged("task -1", x -> x.told(-1, 0), BAD);
        told.unchanged("the least task", x -> x.told(LEAST, 0), BAD);
        told.unchanged("the greatest task", x -> x.told(MOST, 0), BAD);
        over.unchanged("what -1", x -> x.told(0, -1), BAD);
        over.unchanged("what 9", x -> x.told(0, 9), BAD);
        open.unchanged("the least", x -> x.told(0, LEAST), BAD);
        open.unchanged("the greatest", x -> x.told(0, MOST), BAD);
        due.is("no tasks", new GeoThreads(1, 0).told(0, 0), BAD);
        due.is("task 20", Made.withTwentyTasks().told(20, 1), BAD);
        due.is("task 19", Made.withTwentyTasks().told(19, 1), WAITS);
    }

    private static void bestOfNone() {
        due.sentence("0 its BEST's VALUE (NO without), 1 that one's LINE (NONE without), 2 the LIMIT, 3 LINES that are LOST of all its SHARES. BAD.");
        due.are("none so far", Ask.best(Made.told(), 0), NO, NONE, 100, 0);
        due.are("one", Ask.best(Made.over(), 0), 7, 2, 7, 1);
        GeoThreads x = new GeoThreads(1, 0);
        x.grid(0, 1, 1);
        x.search(0, 0, 1, 0);
        x.share(0, 0, 1, 0, 1);
        x.put(0, 0, 0, 1);
        x.run(9);
        due.are("all above the limit", Ask.best(x, 0), NO, NONE, 0, 0);
        x.anew();
        x.put(0, 0, 0, 0);
        x.run(9);
        due.are("a value of 0, line 0", Ask.best(x, 0), 0, 0, 0, 0);
        told.unchanged("no such search", y -> y.best(1, 0), BAD);
        told.unchanged("search -1", y -> y.best(-1, 0), BAD);
        told.unchanged("the least search", y -> y.best(LEAST, 0), BAD);
        told.unchanged("the greatest search", y -> y.best(MOST, 0), BAD);
        over.unchanged("what -1", y -> y.best(0, -1), BAD);
        over.unchanged("what 4", y -> y.best(0, 4), BAD);
        open.unchanged("the greatest", y -> y.best(0, MOST), BAD);
        due.is("no searches", new GeoThreads(1, 0).best(0, 0), BAD);
    }

    private static void bestLost() {
        due.sentence("3 LINES that are LOST of all its SHARES.");
        GeoThreads x = new GeoThreads(1, 0);
        x.grid(2, 2, 13);
        x.search(0, 2, 1, 5);
        x.search(0, 2, 1, 5);
        x.share(0, 0, 1, 0, 9);
        x.share(1, 0, 20, 0, 9);
        x.share(0, 0, 2, 0, 9);
        x.reader(true, 0, 2, 0, 9);
        due.is("none ahead of the run", x.best(0, 3), 0);
        x.run(1000);
        due.is("1 and 2, none of a reader", x.best(0, 3), 3);
        due.is("20", x.best(1, 3), 20);
        x.share(0, 0, 2, 0, 9);
        due.is("none of a share that WAITS", x.best(0, 3), 3);
        x.anew();
        due.is("anew", x.best(0, 3) + x.best(1, 3), 0);
    }

    private static void note() {
        due.sentence("NOTE i. NONE.");
        GeoThreads x = Made.over();
        due.are("notes", Ask.notes(x), 11, 101, 13, 102);
        due.is("behind the last", x.note(4), NONE);
        over.unchanged("note -1", y -> y.note(-1), NONE);
        over.unchanged("the least", y -> y.note(LEAST), NONE);
        over.unchanged("the greatest", y -> y.note(MOST), NONE);
        told.unchanged("no notes", y -> y.note(0), NONE);
        open.unchanged("behind the last, OPEN", y -> y.note(2), NONE);
        GeoThreads z = new GeoThreads(1, 0);
        for (int i = 0; i < 20; i++) z.way(false, 1, 1, 1, 0, 1);
        z.run(1000);
        due.is("the last of 40", z.note(39), 1903);
        due.is("behind it", z.note(40), NONE);
        z.anew();
        due.is("anew", z.note(0), NONE);
    }

    private static void finished() {
        due.sentence("How many TASKS a THREAD has ENDED. BAD.");
        due.is("of each end: 5 by a thread, 1 by none", eachEnd().finished(0), 5);
        GeoThreads x = Made.over();
        due.is("thread 0", x.finished(0), 1);
        due.is("thread 1", x.finished(1), 1);
        due.is("STOPPED by a thread, in close()", Made.closed().finished(1), 1);
        told.unchanged("none so far", y -> y.finished(1), 0);
        over.unchanged("thread 2 of 2", y -> y.finished(2), BAD);
        over.unchanged("thread -1", y -> y.finished(-1), BAD);
        over.unchanged("the least", y -> y.finished(LEAST), BAD);
        over.unchanged("the greatest", y -> y.finished(MOST), BAD);
        due.is("thread 5 of 6", new GeoThreads(6, 0).finished(5), 0);
        due.is("thread 6 of 6", new GeoThreads(6, 0).finished(6), BAD);
        GeoThreads z = new GeoThreads(1, 0);
        for (int i = 0; i < 20; i++) z.way(false, 1, 1, 1, 0, 1);
        z.run(1000);
        due.is("all 20", z.finished(0), 20);
    }

    private static void countOfThings() {
        due.sentence("0 GRIDS, 1 TASKS, 2 SEARCHES");
        GeoThreads x = new GeoThreads(1, 0);
        due.are("none", new long[] {x.count(0), x.count(1), x.count(2)}, 0, 0, 0);
        due.is("6 grids", Made.withSixGrids().count(0), 6);
        due.is("20 tasks", Made.withTwentyTasks().count(1), 20);
        due.is("8 searches", Made.withEightSearches().count(2), 8);
    }

    private static void countOfARun() {
        due.sentence("3 TURNS of the run, 4 those that were PASSED, 5 MEMORY that is free, 6 the most that was taken at once, 7 NOTES, 8 what the run is: 0 none, 1 OPEN, 2 over, 3 closed.");
        due.are("none", Ask.count(Made.told()), 2, 3, 1, 0, 0, 10, 0, 0, 0);
        due.are("OPEN", Ask.count(Made.open()), 2, 3, 1, 4, 0, 5, 5, 2, 1);
        due.are("over", Ask.count(Made.over()), 2, 3, 1, 14, 3, 10, 5, 4, 2);
        due.are("closed", Ask.count(Made.closed()), 2, 3, 1, 4, 0, 10, 5, 4, 3);
        GeoThreads x = new GeoThreads(2, 10);
        x.way(false, 1, 1, 1, 4, 9);
        x.way(false, 9, 1, 9, 3, 9);
        x.way(false, 1, 1, 1, 5, 9);
        x.way(false, 1, 1, 1, 1, 9);
        x.run(2);
        due.is("4 and 3", x.count(6), 7);
        x.run(1);
        due.is("the most stays", x.count(6), 7);
        x.run(2);
        due.is("3 and 5", x.count(6), 8);
        x.run(4);
        due.are("3 and 1", new long[] {x.count(5), x.count(6)}, 6, 8);
        x.anew();
        due.is("anew", x.count(6), 0);
    }

    private static void countRefused() {
        due.sentence("8 what the run is: 0 none, 1 OPEN, 2 over, 3 closed. BAD.");
        told.unchanged("what -1", x -> x.count(-1), BAD);
        open.unchanged("what 9", x -> x.count(9), BAD);
        over.unchanged("the least", x -> x.count(LEAST), BAD);
        closed.unchanged("the greatest", x -> x.count(MOST), BAD);
    }

    private static void equalOfAll() {
        due.sentence("Whether all TASKS, done from the beginning by so many THREADS (1 .. 6) in turn, without THE SCHEDULE, give what one THREAD alone gives");
        for (int n = 1; n <= 6; n++) {
            due.is("no tasks", new GeoThreads(1, 0).equal(n), 1);
            due.is("some of each sort", Made.told().equal(n), 1);
            due.is("while OPEN", Made.open().equal(n), 1);
            due.is("over", Made.over().equal(n), 1);
            due.is("closed", Made.closed().equal(n), 1);
            due.is("of each end", eachEnd().equal(n), 1);
            GeoThreads x = new GeoThreads(1, 1000);
            for (int i = 0; i < 20; i++) x.way(false, 100000, i, 0, 501, 1000);
            due.is("20 tasks, one after the other", x.equal(n), 1);
        }
    }

    private static void equalBehindTheTaken() {
        due.sentence("the WAY that is TAKEN, its ANSWER, each WAY below it (all, if none is) as it ENDED, each SEARCH's BEST, the same SHARES SPENT: 1, 0.");
        GeoThreads x = new GeoThreads(1, 0);
        x.way(false, 9, 1, 9, 0, 9);
        x.way(false, 9, 2, 0, 0, 9);
        x.way(false, 1, 3, 0, 0, 9);
        x.way(false, 1, 4, 1, 0, 9);
        x.way(false, 9, 5, 0, 0, 1);
        for (int n = 1; n <= 6; n++) due.is("ways behind it end otherwise", x.equal(n), 1);
        GeoThreads y = new GeoThreads(1, 0);
        y.grid(2, 3, 12);
        Ask.fill(y, 0, 0, 9, 9, 9, 9, 9, 9, 9, 9, 9, 9, 9, 9);
        Ask.fill(y, 0, 1, 5, 0, 0, 0, 0, 0, 0, 0, 0, 0, 0, 0);
        Ask.fill(y, 0, 2, 5, 0, 0, 0, 0, 0, 0, 0, 0, 0, 0, 0);
        y.search(0, 2, 1, 500);
        y.share(0, 0, 1, 0, 9);
        y.share(0, 2, 9, 0, 9);
        y.share(0, 1, 3, 0, 1);
        y.share(0, 0, 2, 0, 1);
        for (int n = 1; n <= 6; n++) due.is("shares that take more or fewer steps", y.equal(n), 1);
    }

    private static void equalWithoutTheSchedule() {
        due.sentence("in turn, without THE SCHEDULE");
        GeoThreads x = new GeoThreads(6, 3);
        for (int i = 0; i < 400; i++) x.turn(5);
        x.way(false, 3, 1, 3, 2, 9);
        x.way(false, 2, 2, 0, 3, 9);
        for (int n = 1; n <= 6; n++) due.is("turns of threads that there are not", x.equal(n), 1);
        due.is("the schedule stays", x.run(400), 1);
        due.is("thread 5 alone", x.finished(5), 2);
    }

    private static void equalUntouched() {
        due.sentence("(The run at hand is not touched.)");
        for (int n = 1; n <= 6; n++) {
            int threads = n;
            told.unchanged("none", x -> x.equal(threads), 1);
            open.unchanged("OPEN", x -> x.equal(threads), 1);
            over.unchanged("over", x -> x.equal(threads), 1);
            closed.unchanged("closed", x -> x.equal(threads), 1);
        }
        Twins interrupted = new Twins(due, () -> {
            GeoThreads x = Made.open();
            x.interrupt(1);
            x.interrupt(2);
            return x;
        });
        interrupted.unchanged("one is to be INTERRUPTED", x -> x.equal(3), 1);
    }

    private static void equalRefused() {
        due.sentence("(The run at hand is not touched.) BAD.");
        told.unchanged("0", x -> x.equal(0), BAD);
        told.unchanged("-1", x -> x.equal(-1), BAD);
        told.unchanged("7", x -> x.equal(7), BAD);
        open.unchanged("the least", x -> x.equal(LEAST), BAD);
        over.unchanged("the greatest", x -> x.equal(MOST), BAD);
        due.is("6 of an object with one thread", new GeoThreads(1, 0).equal(6), 1);
    }
}
