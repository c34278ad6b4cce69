import java.util.function.Supplier;

/** The boundary cases of turns, of what is taken and done again, and of promises 13 to 16: a test for each sentence. */
public final class EdgeRunsTest {
    private static final int BAD = GeoThreads.BAD, STATE = GeoThreads.STATE, NONE = GeoThreads.NONE;
    private static final long NO = GeoThreads.NO;
    private static final int NULL = 1, INDEX = 2, ZERO = 6;
    private static final int WAITS = 0, UNDER_WAY = 1, PROVED = 2, FAILED = 3, SPENT = 4, STOPPED = 5, INTERRUPTED = 6;
    private static final int LEAST = Integer.MIN_VALUE, MOST = Integer.MAX_VALUE;
    private static final Due due = new Due();
    private static final Twins told = new Twins(due, Made::told);
    private static final Twins open = new Twins(due, Made::open);
    private static final Twins over = new Twins(due, Made::over);
    private static final Twins closed = new Twins(due, Made::closed);

    public static void main(String[] args) {
        foundWithoutTurns();
        turnsOfThreads();
        endsOrSteps();
        memoryBack();
        leastThatFits();
        takenOnce();
        behindTheTaken();
        overAndAgain();
        staysFailed();
        notes();
        openUntil();
        runTurns();
        runWithoutTasks();
        runRefused();
        interruptWaiting();
        interruptUnderWay();
        interruptLast();
        interruptRefused();
        closeAll();
        closeTakesNothing();
        closeRefused();
        anewAsAtFirst();
        anewOfAnyRun();
        due.end();
    }

    /** Ways of 9 parts that need no memory. */
    private static GeoThreads withWays(int threads, int many) {
        GeoThreads x = new GeoThreads(threads, 10);
        for (int i = 0; i < many; i++) x.way(false, 9, i, 0, 0, 9);
        return x;
    }

    private static void foundWithoutTurns() {
        due.sentence("What is found hangs on what there is to do alone, not on the turns: only steps, waits and the order of what ends do.");
        for (int threads = 1; threads <= 6; threads++) {
            for (int last = 0; last < threads; last++) {
                GeoThreads x = new GeoThreads(threads, 5);
                x.grid(3, 4, 2);
                x.line(0, 1, 13);
                Ask.fill(x, 0, 0, 9, 1);
                Ask.fill(x, 0, 2, 4, 0);
                Ask.fill(x, 0, 3, 4, 0);
                x.search(0, 3, 1, 50);
                x.share(0, 3, 5, 1, 9);
                x.way(false, 20, 1, 20, 4, 30);
                x.share(0, 0, 4, 0, 9);
                x.share(0, 2, 4, 5, 1);
                x.way(false, 10, 2, 0, 2, 30);
                x.way(false, 1, 3, 0, 0, 1);
                for (int i = 0; i < 9; i++) x.turn(last);
                due.is("a way is taken", x.run(1000), 1);
                due.is("the least that is PROVED", x.taken(), 4);
                due.is("its answer", x.answer(4), 2);
                due.are("ways below", new long[] {x.told(1, 1), x.told(1, 2)}, FAILED, 7);
                due.are("shares", new long[] {x.told(0, 2), x.told(2, 2), x.told(3, 1)}, INDEX, NULL, SPENT);
                due.are("best", Ask.best(x, 0), 4, 2, 4, 2);
            }
        }
    }

    private static void turnsOfThreads() {
        due.sentence("THREADS 0 .. n - 1 have TURNS: first those of THE SCHEDULE, then THREADS 0, 1, .. n - 1, again and again.");
        GeoThreads x = withWays(6, 7);
        x.run(6);
        due.are("each in turn", Ask.notes(x), 1, 111, 221, 331, 441, 551);
        x.run(1);
        due.is("thread 0 again", x.told(0, 3), 1);
        x.run(5);
        for (int i = 0; i < 6; i++) due.is("once each", x.told(i, 3), 1);
        x.run(6);
        for (int i = 0; i < 6; i++) due.is("again and again", x.told(i, 3), 2);
        GeoThreads y = withWays(3, 4);
        y.turn(2);
        y.turn(1);
        y.run(2);
        due.are("the schedule", Ask.notes(y), 21, 111);
        y.run(1);
        due.are("thread 0 behind it, wherever it ended", Ask.notes(y), 21, 111, 201);
        y.run(2);
        due.are("then threads 1, 2", new long[] {y.told(0, 3), y.told(1, 3), y.told(2, 3)}, 1, 1, 0);
        y.run(1);
        due.is("then thread 0", y.told(2, 3), 1);
        GeoThreads z = withWays(1, 2);
        z.turn(0);
        z.run(4);
        due.is("one thread has all turns", z.told(0, 3), 3);
    }

    private static void endsOrSteps() {
        due.sentence("A THREAD with a TASK: if that is to be STOPPED or INTERRUPTED, it ENDS so; else one STEP of it is done.");
        GeoThreads x = withWays(1, 2);
        x.run(2);
        due.are("a step", Ask.told(x, 0), 0, UNDER_WAY, 0, 1, 2, 1, 0, 0, 10);
        x.interrupt(0);
        x.run(1);
        due.are("INTERRUPTED, without a step", Ask.told(x, 0), 0, INTERRUPTED, 0, 1, 3, 1, 0, 0, 10);
        due.is("the next is not yet taken", x.told(1, 1), WAITS);
        GeoThreads y = new GeoThreads(2, 0);
        y.way(false, 1, 5, 0, 0, 9);
        y.way(false, 1, 6, 0, 0, 9);
        y.run(3);
        due.are("to be STOPPED", Ask.states(y), PROVED, UNDER_WAY);
        due.is("over", y.run(1), 1);
        due.are("STOPPED, though one step would have proved it", Ask.told(y, 1), 0, STOPPED, 0, 0, 2, 0, 1, 0, 10);
        GeoThreads z = withWays(1, 1);
        z.run(1);
        z.interrupt(0);
        due.is("ahead of its first step", z.run(1), 2);
        due.are("INTERRUPTED", Ask.told(z, 0), 0, INTERRUPTED, 0, 0, 2, 0, 0, 0, 10);
    }

    /** One thing of the given sort that needs 7 of 10, and what is free before, while and behind it. */
    private static void givesBack(String what, GeoThreads x, int turns) {
        due.is(what + ": ahead of it", x.count(5), 10);
        x.run(1);
        due.is(what + ": while it is under way", x.count(5), 3);
        x.run(turns - 1);
        due.is(what + ": it is still", x.count(5), 3);
        x.run(1);
        due.is(what + ": behind it", x.count(5), 10);
        due.is(what + ": the most", x.count(6), 7);
    }

    private static GeoThreads needing7(int parts, int fails, int budget) {
        GeoThreads x = new GeoThreads(1, 10);
        x.way(false, parts, 1, fails, 7, budget);
        x.way(false, 9, 1, 0, 0, 9);
        return x;
    }

    private static void memoryBack() {
        due.sentence("What ENDS gives its MEMORY back.");
        givesBack("PROVED", needing7(3, 0, 9), 3);
        givesBack("FAILED", needing7(9, 3, 9), 3);
        givesBack("SPENT", needing7(9, 0, 3), 3);
        GeoThreads x = needing7(9, 0, 9);
        x.run(1);
        x.interrupt(0);
        due.is("INTERRUPTED: not as it is to be", x.count(5), 3);
        x.run(1);
        due.is("INTERRUPTED", x.count(5), 10);
        GeoThreads y = new GeoThreads(2, 10);
        y.way(false, 1, 1, 0, 3, 9);
        y.way(false, 9, 1, 0, 7, 9);
        y.run(3);
        due.is("to be STOPPED", y.count(5), 3);
        y.run(1);
        due.is("STOPPED", y.count(5), 10);
        GeoThreads z = needing7(9, 0, 9);
        z.run(1);
        z.close();
        due.is("closed", z.count(5), 10);
        GeoThreads u = needing7(9, 0, 9);
        u.run(1);
        u.interrupt(1);
        due.is("one that WAITS has none to give back", u.count(5), 3);
    }

    private static void leastThatFits() {
        due.sentence("the least TASK that WAITS, and whose NEED is free, is UNDER WAY, this THREAD's, and its NEED is taken (no STEP yet); if there is none the TURN is PASSED.");
        GeoThreads x = new GeoThreads(4, 10);
        x.way(false, 9, 1, 2, 6, 9);
        x.way(false, 9, 2, 2, 5, 9);
        x.way(false, 9, 3, 2, 4, 9);
        x.way(false, 9, 4, 2, 1, 9);
        x.way(false, 9, 5, 2, 0, 9);
        x.run(1);
        due.are("the least, no step", Ask.told(x, 0), 0, UNDER_WAY, 0, 0, 1, 0, 0, 0, 10);
        x.run(1);
        due.are("5 of 4 does not fit, 4 of 4 does", Ask.states(x), 1, 0, 1, 0, 0);
        due.is("none is free", x.count(5), 0);
        x.run(1);
        due.are("1 of 0 does not fit, 0 does", Ask.states(x), 1, 0, 1, 0, 1);
        x.run(1);
        due.is("PASSED", x.count(4), 1);
        due.is("it is a turn", x.count(3), 4);
        due.are("nothing by it", Ask.notes(x), 1, 211, 421);
        x.run(4);
        due.is("PASSED again", x.count(4), 2);
        x.run(1);
        due.is("6 is free", x.count(5), 6);
        x.run(1);
        due.is("10 is free", x.count(5), 10);
        x.run(1);
        due.is("0 was given back", x.count(5), 10);
        x.run(1);
        due.are("the least by thread 3", Ask.notes(x), 1, 211, 421, 3, 213, 423, 131);
        due.is("its need", x.count(5), 5);
        GeoThreads y = withWays(2, 1);
        y.run(2);
        due.is("none WAITS: PASSED", y.count(4), 1);
    }

    private static void takenOnce() {
        due.sentence("if a WAY is PROVED, and no WAY below it WAITS or is UNDER WAY: it is TAKEN (once)");
        GeoThreads x = new GeoThreads(2, 4);
        x.way(false, 5, 1, 0, 4, 2);
        x.way(false, 1, 2, 0, 0, 9);
        x.way(false, 5, 3, 3, 4, 9);
        x.way(false, 1, 4, 0, 0, 9);
        x.turn(0);
        for (int i = 0; i < 4; i++) x.turn(1);
        x.run(5);
        due.are("PROVED, one below is under way", Ask.states(x), UNDER_WAY, PROVED, WAITS, PROVED);
        due.is("none is taken", x.taken(), NONE);
        x.run(3);
        due.are("that one is SPENT", Ask.states(x), SPENT, PROVED, STOPPED, PROVED);
        due.is("the least PROVED one is taken", x.taken(), 1);
        GeoThreads y = new GeoThreads(2, 4);
        y.way(false, 1, 1, 1, 4, 9);
        y.way(false, 1, 2, 1, 4, 9);
        y.way(false, 1, 3, 0, 0, 9);
        y.run(3);
        due.are("one below FAILED, one WAITS", Ask.states(y), FAILED, WAITS, UNDER_WAY);
        y.run(1);
        due.are("PROVED, one below WAITS", Ask.states(y), FAILED, WAITS, PROVED);
        due.is("none is taken", y.taken(), NONE);
        due.is("over with that one's end", y.run(3), 1);
        due.is("taken then", y.taken(), 2);
        GeoThreads z = new GeoThreads(2, 0);
        z.grid(0, 1, 12);
        z.search(0, 0, 1, 1);
        z.share(0, 0, 1, 0, 9);
        z.way(false, 2, 1, 0, 0, 9);
        z.way(false, 1, 2, 0, 0, 9);
        z.turn(1);
        z.turn(0);
        z.turn(0);
        z.run(3);
        due.is("not by a share's step", z.taken(), NONE);
        z.run(1);
        due.is("a share below that is UNDER WAY is no way", z.taken(), 1);
        due.are("states", Ask.states(z), UNDER_WAY, PROVED, STOPPED);
        GeoThreads u = new GeoThreads(2, 4);
        u.grid(0, 1, 12);
        u.search(0, 0, 1, 1);
        u.share(0, 0, 1, 4, 9);
        u.share(0, 0, 1, 4, 9);
        u.way(false, 1, 1, 0, 0, 9);
        u.run(4);
        due.is("nor is one that WAITS", u.taken(), 2);
        due.are("states", Ask.states(u), UNDER_WAY, WAITS, PROVED);
        onceAlone();
    }

    private static void onceAlone() {
        GeoThreads x = new GeoThreads(3, 0);
        x.grid(0, 1, 12);
        x.search(0, 0, 1, 1);
        x.way(false, 3, 1, 0, 0, 9);
        x.way(false, 1, 2, 0, 0, 9);
        x.share(0, 0, 1, 0, 9);
        due.is("OPEN", x.run(10), 0);
        due.are("two are PROVED", Ask.states(x), PROVED, PROVED, UNDER_WAY);
        due.is("the least is taken", x.taken(), 0);
        x.run(5);
        due.is("the other is not, in later turns", x.taken(), 0);
        x.interrupt(2);
        due.is("over", x.run(1000), 1);
        due.is("nor at the end", x.taken(), 0);
    }

    private static void behindTheTaken() {
        due.sentence("and all WAYS behind it that WAIT are STOPPED (by no THREAD), those UNDER WAY are to be STOPPED.");
        GeoThreads x = new GeoThreads(3, 3);
        x.grid(0, 1, 12);
        x.search(0, 0, 1, 1);
        x.way(false, 1, 1, 0, 0, 9);
        x.way(true, 9, 2, 0, 3, 9);
        x.share(0, 0, 1, 0, 9);
        x.way(false, 9, 3, 0, 3, 9);
        x.reader(true, 0, 0, 3, 9);
        x.share(0, 0, 1, 3, 9);
        x.reader(false, 0, 0, 3, 9);
        x.run(4);
        due.is("taken", x.taken(), 0);
        due.are("ways that WAIT, the others", Ask.states(x), PROVED, UNDER_WAY, UNDER_WAY, STOPPED, STOPPED, WAITS, STOPPED);
        due.are("by no thread", Ask.told(x, 4), 3, STOPPED, 0, 0, 0, 0, NONE, 0, 12);
        due.are("no notes of these", Ask.notes(x), 1, 111, 221, 2);
        x.run(1);
        due.are("STOPPED by its thread", Ask.told(x, 1), 1, STOPPED, 0, 0, 2, 0, 1, 0, 11);
        due.is("over", x.run(1000), 1);
        due.are("shares go on", Ask.states(x), PROVED, STOPPED, PROVED, STOPPED, STOPPED, PROVED, STOPPED);
        GeoThreads y = new GeoThreads(1, 0);
        y.way(false, 1, 1, 1, 0, 9);
        y.way(false, 1, 2, 0, 0, 9);
        y.run(1000);
        due.are("those ahead of it stay as they are", Ask.states(y), FAILED, PROVED);
        GeoThreads z = withWays(1, 20);
        z.run(1000);
        due.is("over at once: nothing is left", z.count(3), 10);
        due.is("the last of 20", z.told(19, 1), STOPPED);
    }

    private static void overAndAgain() {
        due.sentence("each SHARE that FAILED is done AGAIN then, by number, alone, without STEPS, PARTS: all its LINES as told above, but one with a FAULT is LOST (of the SHARE), and it goes on behind it.");
        GeoThreads x = new GeoThreads(1, 0);
        x.grid(2, 5, 2);
        Ask.fill(x, 0, 0, 9, 9);
        x.line(0, 1, 13);
        Ask.fill(x, 0, 2, 8, 8);
        Ask.fill(x, 0, 3, 99, 0);
        Ask.fill(x, 0, 4, 7, 9);
        x.search(0, 2, 1, 50);
        x.share(0, 0, 7, 0, 1000);
        x.way(false, 3, 5, 0, 0, 9);
        x.run(4);
        due.are("it FAILED", Ask.told(x, 0), 4, FAILED, NULL, 3, 4, 2, 0, 0, 30);
        due.are("its best so far", Ask.best(x, 0), 18, 0, 18, 0);
        due.is("not yet over", x.run(3), 0);
        due.are("nothing again so far", Ask.best(x, 0), 18, 0, 18, 0);
        due.is("over", x.run(1), 1);
        due.are("three lines are LOST, one above the limit is not", Ask.told(x, 0), 4, FAILED, NULL, 3, 4, 2, 0, 3, 30);
        due.are("best of all its lines", Ask.best(x, 0), 16, 2, 16, 3);
        due.is("no turn", x.count(3), 8);
        due.are("no note", Ask.notes(x), 1, 3, 101, 102);
        due.is("finished once", x.finished(0), 2);
        againOnlyWhatFailed();
        againTwoShares();
        againByZero();
    }

    private static void againOnlyWhatFailed() {
        GeoThreads x = new GeoThreads(1, 0);
        x.grid(2, 3, 1);
        Ask.fill(x, 0, 0, 9);
        Ask.fill(x, 0, 1, 8);
        x.line(0, 2, 13);
        x.search(0, 2, 1, 50);
        x.share(0, 0, 3, 0, 1);
        x.share(0, 0, 2, 0, 9);
        x.run(2);
        x.interrupt(1);
        due.is("over", x.run(1), 2);
        due.are("neither what is SPENT nor INTERRUPTED", Ask.states(x), SPENT, INTERRUPTED);
        due.are("best", Ask.best(x, 0), 9, 0, 9, 0);
        GeoThreads y = new GeoThreads(1, 0);
        y.grid(2, 2, 1);
        y.line(0, 0, 13);
        y.search(0, 2, 1, 50);
        y.share(0, 0, 2, 0, 1);
        y.run(9);
        due.are("without a budget", Ask.best(y, 0), 0, 1, 0, 1);
    }

    private static void againTwoShares() {
        GeoThreads x = new GeoThreads(2, 0);
        x.grid(2, 4, 1);
        x.line(0, 0, 13);
        Ask.fill(x, 0, 1, 6);
        Ask.fill(x, 0, 2, 5);
        x.line(0, 3, 13);
        x.search(0, 2, 1, 50);
        x.search(0, 2, 5, 0);
        x.share(0, 3, 5, 0, 9);
        x.share(0, 0, 3, 0, 9);
        x.share(1, 0, 20, 0, 9);
        x.run(1000);
        due.are("each has its own LOST", new long[] {x.told(0, 7), x.told(1, 7), x.told(2, 7)}, 2, 1, 18);
        due.are("a search has those of all its shares", Ask.best(x, 0), 5, 2, 5, 3);
        due.are("another search", Ask.best(x, 1), NO, NONE, 0, 18);
    }

    private static void againByZero() {
        GeoThreads x = new GeoThreads(1, 0);
        x.grid(2, 2, 12);
        x.search(0, 2, 0, 50);
        x.share(0, 0, 2, 0, 9);
        x.run(9);
        due.are("ZERO of each line", Ask.told(x, 0), 4, FAILED, ZERO, 1, 2, 1, 0, 2, 30);
        due.are("no best", Ask.best(x, 0), NO, NONE, 50, 2);
        GeoThreads y = new GeoThreads(1, 0);
        y.grid(2, 2, 12);
        y.line(0, 0, 13);
        Ask.fill(y, 0, 1, 1, 2, 3, 4, 5, 6, 7, 8, 9, 10, 11, 12);
        y.search(0, 2, 1, 78);
        y.share(0, 0, 2, 0, 9);
        y.run(9);
        due.are("a line of 12 items, to its end", Ask.best(y, 0), 78, 1, 78, 1);
    }

    private static void staysFailed() {
        due.sentence("It stays FAILED, by its FAULT.");
        GeoThreads x = new GeoThreads(1, 0);
        x.grid(2, 2, 1);
        x.line(0, 1, 13);
        x.search(0, 2, 1, 50);
        x.share(0, 1, 3, 0, 9);
        x.share(0, 0, 3, 0, 9);
        x.run(99);
        due.are("by NULL, though INDEX comes last", Ask.told(x, 0), 4, FAILED, NULL, 1, 2, 0, 0, 2, 30);
        due.are("though lines were found", Ask.told(x, 1), 4, FAILED, NULL, 2, 3, 1, 0, 2, 30);
        due.are("notes", Ask.notes(x), 1, 3, 101, 103);
        due.is("none is taken", x.taken(), NONE);
    }

    private static void notes() {
        due.sentence("100 * TASK + 10 * THREAD + 1 as a TASK is UNDER WAY, and that with its STATE in place of 1 as a THREAD's ENDS.");
        GeoThreads x = new GeoThreads(6, 0);
        x.way(false, 9, 1, 1, 0, 9);
        x.way(false, 9, 1, 0, 0, 1);
        x.way(false, 3, 1, 3, 0, 9);
        x.way(false, 2, 1, 0, 0, 9);
        x.way(false, 9, 1, 0, 0, 9);
        for (int i = 5; i < 20; i++) x.way(false, 9, 1, 0, 0, 9);
        x.run(6);
        x.interrupt(4);
        x.interrupt(18);
        x.run(6);
        due.are("FAILED, SPENT, INTERRUPTED", Ask.notes(x), 1, 111, 221, 331, 441, 551, 3, 114, 446);
        x.run(6);
        due.are("PROVED", Ask.notes(x), 1, 111, 221, 331, 441, 551, 3, 114, 446, 601, 711, 332, 841);
        x.run(3);
        due.are("what is to be STOPPED as the way below ends", Ask.states(x),
            FAILED, SPENT, FAILED, PROVED, INTERRUPTED, 1, 1, 1, 1, STOPPED, STOPPED, STOPPED, STOPPED, STOPPED,
            STOPPED, STOPPED, STOPPED, STOPPED, INTERRUPTED, STOPPED);
        due.is("over", x.run(1000), 1);
        due.are("STOPPED by threads", Ask.notes(x),
            1, 111, 221, 331, 441, 551, 3, 114, 446, 601, 711, 332, 841, 223, 845, 555, 605, 715);
        GeoThreads y = new GeoThreads(6, 0);
        y.grid(0, 0, 0);
        for (int i = 0; i < 5; i++) y.turn(5);
        for (int i = 0; i < 20; i++) y.way(false, 1, 1, 1, 0, 9);
        y.run(1000);
        due.is("two for each of 20", y.count(7), 40);
        due.are("the first ones", new long[] {y.note(0), y.note(1), y.note(2), y.note(3)}, 51, 53, 151, 153);
        due.are("the last ones", new long[] {y.note(38) / 100, y.note(39) / 100}, 18, 19);
    }

    private static void openUntil() {
        due.sentence("A run is OPEN from the first run() on until it is over, or closed.");
        GeoThreads x = withWays(1, 1);
        due.is("ahead of run()", x.count(8), 0);
        x.run(0);
        due.is("behind a run() that is refused", x.count(8), 0);
        x.run(1);
        due.is("OPEN", x.count(8), 1);
        x.run(8);
        due.is("OPEN", x.count(8), 1);
        x.run(1);
        due.is("over", x.count(8), 2);
        x.anew();
        x.run(1);
        x.close();
        due.is("closed", x.count(8), 3);
        x.anew();
        due.is("none", x.count(8), 0);
        x.run(1);
        x.interrupt(0);
        due.is("interrupt() leaves it OPEN", x.count(8), 1);
    }

    private static void runTurns() {
        due.sentence("Up to n TURNS (1 .. 1000): 0 the run is OPEN still; it is over: 1 a WAY is TAKEN, 2 none is.");
        GeoThreads x = new GeoThreads(1, 0);
        x.way(false, 999, 1, 0, 0, 1000);
        due.is("1000 turns are just enough", x.run(1000), 1);
        due.is("turns", x.count(3), 1000);
        x.anew();
        due.is("999 are one too few", x.run(999), 0);
        due.is("turns", x.count(3), 999);
        due.is("one more", x.run(1), 1);
        GeoThreads y = new GeoThreads(1, 0);
        y.way(false, 1001, 1, 0, 0, 1000);
        due.is("one turn", y.run(1), 0);
        due.is("turns", y.count(3), 1);
        due.is("1000 turns", y.run(1000), 2);
        due.is("turns", y.count(3), 1001);
        GeoThreads z = withWays(1, 1);
        due.is("no more turns than needed", z.run(1000), 1);
        due.is("turns", z.count(3), 10);
        GeoThreads u = new GeoThreads(1, 0);
        u.way(false, 1, 1, 1, 0, 1);
        due.is("all FAILED: none is TAKEN", u.run(1000), 2);
        told.unchanged("n 0", t -> t.run(0), BAD);
        told.unchanged("n -1", t -> t.run(-1), BAD);
        told.unchanged("n 1001", t -> t.run(1001), BAD);
        told.unchanged("the least n", t -> t.run(LEAST), BAD);
        told.unchanged("the greatest n", t -> t.run(MOST), BAD);
        open.unchanged("n 0, OPEN", t -> t.run(0), BAD);
        open.unchanged("n 1001, OPEN", t -> t.run(1001), BAD);
    }

    private static void runWithoutTasks() {
        due.sentence("(Without TASKS that WAIT or are UNDER WAY: no TURN, and it is over.)");
        GeoThreads x = new GeoThreads(2, 10);
        x.turn(1);
        due.is("no tasks", x.run(1), 2);
        due.are("no turn", Ask.count(x), 0, 0, 0, 0, 0, 10, 0, 0, 2);
        x.anew();
        due.is("no tasks, anew", x.run(1000), 2);
        due.is("no turn", x.count(3), 0);
        GeoThreads y = new GeoThreads(1, 0);
        y.way(false, 1, 1, 1, 0, 1);
        y.way(false, 1, 1, 1, 0, 1);
        y.run(2);
        y.interrupt(1);
        due.is("all have ENDED", y.run(1000), 2);
        due.is("no turn", y.count(3), 2);
        due.is("none is PASSED", y.count(4), 0);
    }

    private static void runRefused() {
        due.sentence("BAD; STATE: it was over, or closed, before.");
        over.unchanged("over", x -> x.run(1), STATE);
        over.unchanged("over, 1000", x -> x.run(1000), STATE);
        closed.unchanged("closed", x -> x.run(1), STATE);
        over.unchanged("BAD ahead of STATE, over", x -> x.run(0), BAD);
        closed.unchanged("BAD ahead of STATE, closed", x -> x.run(1001), BAD);
        GeoThreads x = Made.over();
        due.is("a task told behind it", x.way(false, 1, 1, 0, 0, 1), 3);
        due.is("STATE still", x.run(1), STATE);
        due.is("it WAITS", x.told(3, 1), WAITS);
        due.is("anew", x.anew(), 4);
        due.is("not any more", x.run(1), 0);
    }

    private static void interruptWaiting() {
        due.sentence("A TASK that WAITS is INTERRUPTED (by no THREAD, behind it as behind a TURN what is TAKEN is looked at)");
        GeoThreads x = new GeoThreads(2, 4);
        x.way(false, 1, 1, 1, 4, 9);
        x.way(false, 1, 2, 0, 4, 9);
        x.way(false, 1, 3, 0, 0, 9);
        x.way(false, 1, 4, 0, 4, 9);
        x.run(4);
        due.are("one WAITS below one that is PROVED", Ask.states(x), FAILED, WAITS, PROVED, WAITS);
        due.is("it is", x.interrupt(1), 1);
        due.are("by no thread", Ask.told(x, 1), 0, INTERRUPTED, 0, 0, 0, 0, NONE, 0, 10);
        due.is("TAKEN at once", x.taken(), 2);
        due.are("what is behind that", Ask.states(x), FAILED, INTERRUPTED, PROVED, STOPPED);
        due.are("no notes", Ask.notes(x), 1, 211, 3, 212);
        due.is("finished by 0", x.finished(0), 1);
        due.is("no turn", x.count(3), 4);
        GeoThreads y = withWays(1, 3);
        y.run(1);
        due.is("one amid", y.interrupt(1), 1);
        due.is("nothing is TAKEN", y.taken(), NONE);
        y.interrupt(0);
        y.run(2);
        due.are("it is passed by", Ask.notes(y), 1, 6, 201);
        GeoThreads z = withWays(1, 2);
        z.grid(0, 1, 1);
        z.search(0, 0, 1, 1);
        z.share(0, 0, 1, 0, 1);
        z.run(1);
        due.is("a share", z.interrupt(2), 1);
        due.are("by no thread", Ask.told(z, 2), 4, INTERRUPTED, 0, 0, 0, 0, NONE, 0, 30);
    }

    private static void interruptUnderWay() {
        due.sentence("one UNDER WAY is to be (STOPPED ahead of it, if both): 1; one that ENDED: 0.");
        GeoThreads x = withWays(2, 2);
        x.run(4);
        due.is("is to be", x.interrupt(0), 1);
        due.are("under way still", Ask.told(x, 0), 0, UNDER_WAY, 0, 1, 2, 1, 0, 0, 10);
        due.is("once more", x.interrupt(0), 1);
        x.run(1);
        due.are("by its thread", Ask.told(x, 0), 0, INTERRUPTED, 0, 1, 3, 1, 0, 0, 10);
        due.is("INTERRUPTED: 0", x.interrupt(0), 0);
        GeoThreads y = new GeoThreads(3, 0);
        y.way(false, 1, 1, 0, 0, 9);
        y.way(false, 9, 2, 0, 0, 9);
        y.way(false, 9, 3, 0, 0, 9);
        y.run(3);
        due.is("INTERRUPTED first", y.interrupt(1), 1);
        y.run(1);
        due.is("TAKEN", y.taken(), 0);
        due.is("STOPPED first", y.interrupt(2), 1);
        due.is("PROVED: 0", y.interrupt(0), 0);
        due.is("over", y.run(2), 1);
        due.are("STOPPED ahead of it", Ask.states(y), PROVED, STOPPED, STOPPED);
        due.are("notes", Ask.notes(y), 1, 111, 221, 2, 115, 225);
        GeoThreads z = new GeoThreads(1, 0);
        z.way(false, 1, 1, 1, 0, 9);
        z.way(false, 9, 1, 0, 0, 1);
        z.way(false, 1, 1, 0, 0, 9);
        z.way(false, 1, 1, 0, 0, 9);
        z.grid(0, 0, 0);
        z.search(0, 0, 1, 1);
        z.share(0, 0, 0, 0, 9);
        z.run(6);
        due.are("states", Ask.states(z), FAILED, SPENT, PROVED, STOPPED, WAITS);
        for (int i = 0; i < 4; i++) due.is("ENDED", z.interrupt(i), 0);
        due.are("nothing by that", Ask.states(z), FAILED, SPENT, PROVED, STOPPED, WAITS);
    }

    private static void interruptLast() {
        due.sentence("(If nothing is left then, the run is over with the next run(), without a TURN.)");
        GeoThreads x = new GeoThreads(1, 0);
        x.grid(2, 2, 1);
        x.line(0, 0, 13);
        x.search(0, 2, 1, 50);
        x.share(0, 0, 2, 0, 9);
        x.way(false, 1, 1, 0, 0, 9);
        x.run(2);
        due.is("the last one", x.interrupt(1), 1);
        due.is("OPEN still", x.count(8), 1);
        due.is("STATE still", x.turn(0), STATE);
        due.are("nothing is done AGAIN so far", Ask.best(x, 0), NO, NONE, 50, 0);
        due.is("BAD still", x.run(0), BAD);
        due.is("over", x.run(1), 2);
        due.is("no turn", x.count(3), 2);
        due.is("it is over", x.count(8), 2);
        due.are("done AGAIN", Ask.best(x, 0), 0, 1, 0, 1);
        GeoThreads y = new GeoThreads(2, 4);
        y.way(false, 1, 1, 1, 4, 9);
        y.way(false, 1, 2, 0, 4, 9);
        y.way(false, 1, 3, 0, 0, 9);
        y.run(4);
        y.interrupt(1);
        due.is("over, a WAY is TAKEN", y.run(1000), 1);
        due.is("no turn", y.count(3), 4);
        GeoThreads z = withWays(1, 1);
        z.run(1);
        z.interrupt(0);
        due.is("one UNDER WAY is left: it takes a turn", z.run(1), 2);
        due.is("turns", z.count(3), 2);
    }

    private static void interruptRefused() {
        due.sentence("BAD; STATE: no run is OPEN.");
        told.unchanged("no run", x -> x.interrupt(0), STATE);
        over.unchanged("over", x -> x.interrupt(2), STATE);
        closed.unchanged("closed", x -> x.interrupt(2), STATE);
        open.unchanged("no such task", x -> x.interrupt(3), BAD);
        open.unchanged("task -1", x -> x.interrupt(-1), BAD);
        open.unchanged("the least", x -> x.interrupt(LEAST), BAD);
        open.unchanged("the greatest", x -> x.interrupt(MOST), BAD);
        told.unchanged("BAD ahead of STATE, no run", x -> x.interrupt(3), BAD);
        over.unchanged("BAD ahead of STATE, over", x -> x.interrupt(3), BAD);
        closed.unchanged("BAD ahead of STATE, closed", x -> x.interrupt(-1), BAD);
        due.is("no tasks", new GeoThreads(1, 0).interrupt(0), BAD);
        GeoThreads x = Made.over();
        x.way(false, 1, 1, 0, 0, 1);
        due.is("one that WAITS behind a run that is over", x.interrupt(3), STATE);
    }

    private static void closeAll() {
        due.sentence("all TASKS UNDER WAY are STOPPED by their THREADS, the highest THREAD first, then those that WAIT, by none: how many.");
        GeoThreads x = withWays(6, 20);
        int[] order = {3, 5, 0, 4, 1, 2};
        for (int thread : order) x.turn(thread);
        x.run(6);
        x.interrupt(0);
        due.is("6 and 14", x.close(), 20);
        due.are("the highest first", Ask.notes(x), 31, 151, 201, 341, 411, 521, 155, 345, 35, 525, 415, 205);
        for (int i = 0; i < 6; i++) due.is("finished by " + i, x.finished(i), 1);
        due.are("also what was to be INTERRUPTED", Ask.told(x, 0), 0, STOPPED, 0, 0, 1, 0, 3, 0, 10);
        due.are("by none", Ask.told(x, 19), 0, STOPPED, 0, 0, 0, 0, NONE, 0, 10);
        GeoThreads y = withWays(2, 2);
        y.interrupt(0);
        y.run(1);
        y.interrupt(1);
        due.is("one UNDER WAY", y.close(), 1);
        due.are("what ENDED stays", Ask.states(y), STOPPED, INTERRUPTED);
        GeoThreads z = new GeoThreads(1, 0);
        z.way(false, 1, 1, 1, 0, 9);
        z.way(false, 1, 1, 1, 0, 9);
        z.run(2);
        due.is("one that WAITS", z.close(), 1);
        due.are("by none", Ask.notes(z), 1, 3);
        z.anew();
        z.run(2);
        z.interrupt(1);
        due.is("none is left", z.close(), 0);
        due.is("closed all the same", z.count(8), 3);
    }

    private static void closeTakesNothing() {
        due.sentence("No WAY is TAKEN by it, nothing is done AGAIN, no TURN is counted.");
        GeoThreads x = new GeoThreads(2, 0);
        x.grid(2, 2, 1);
        x.line(0, 0, 13);
        x.search(0, 2, 1, 50);
        x.share(0, 0, 2, 0, 9);
        x.way(false, 9, 1, 0, 0, 9);
        x.way(false, 1, 2, 0, 0, 9);
        x.turn(0);
        x.turn(0);
        x.turn(1);
        x.turn(0);
        x.turn(0);
        x.run(5);
        due.are("one FAILED, one PROVED", Ask.states(x), FAILED, UNDER_WAY, PROVED);
        due.is("close", x.close(), 1);
        due.is("no way is TAKEN", x.taken(), NONE);
        due.is("though one is PROVED", x.answer(2), 2);
        due.are("nothing is done AGAIN", Ask.best(x, 0), NO, NONE, 50, 0);
        due.is("none is LOST", x.told(0, 7), 0);
        due.is("turns", x.count(3), 5);
        due.is("the task's turns", x.told(1, 4), 1);
        due.is("none is PASSED", x.count(4), 0);
        GeoThreads y = new GeoThreads(1, 0);
        y.way(false, 1, 7, 0, 0, 9);
        y.grid(0, 0, 0);
        y.search(0, 0, 1, 1);
        y.share(0, 0, 0, 0, 9);
        y.run(2);
        y.close();
        due.is("what was TAKEN stays so", y.taken(), 0);
    }

    private static void closeRefused() {
        due.sentence("STATE: none is OPEN.");
        told.unchanged("no run", GeoThreads::close, STATE);
        over.unchanged("over", GeoThreads::close, STATE);
        closed.unchanged("closed", GeoThreads::close, STATE);
        due.is("a new one", new GeoThreads(1, 0).close(), STATE);
        GeoThreads x = Made.open();
        x.anew();
        due.is("anew", x.close(), STATE);
    }

    private static void anewAsAtFirst() {
        due.sentence("All TASKS WAIT as at first, no BEST, LIMITS as told, no NOTES, TURNS from THE SCHEDULE's beginning, all that is counted of a run 0, all MEMORY free: how many TASKS.");
        due.is("no tasks", new GeoThreads(1, 0).anew(), 0);
        due.is("20 tasks", withWays(1, 20).anew(), 20);
        GeoThreads x = Made.open();
        x.interrupt(0);
        x.interrupt(1);
        due.is("OPEN", x.anew(), 3);
        due.are("told", Ask.told(x, 0), 4, WAITS, 0, 0, 0, 0, NONE, 0, 30);
        due.are("told", Ask.told(x, 1), 3, WAITS, 0, 0, 0, 0, NONE, 0, 12);
        due.are("best", Ask.best(x, 0), NO, NONE, 100, 0);
        due.is("no notes", x.note(0), NONE);
        due.are("count", Ask.count(x), 2, 3, 1, 0, 0, 10, 0, 0, 0);
        due.is("finished", x.finished(0) + x.finished(1), 0);
        x.run(1);
        due.are("the schedule's first turn", Ask.notes(x), 11);
        GeoThreads y = Made.over();
        due.is("a WAY was TAKEN", y.taken(), 1);
        y.anew();
        due.is("none is", y.taken(), NONE);
        due.is("no answer", y.answer(1), NO);
        due.is("none is LOST", y.told(0, 7) + y.told(1, 7) + y.best(0, 3), 0);
    }

    private static void anewOfAnyRun() {
        due.sentence("(A run that is OPEN, over or closed is none any more.)");
        asToldBehindAnew("none", Made::told);
        asToldBehindAnew("OPEN", Made::open);
        asToldBehindAnew("over", Made::over);
        asToldBehindAnew("closed", Made::closed);
        asToldBehindAnew("OPEN, a TURN was PASSED", () -> {
            GeoThreads x = Made.open();
            x.run(5);
            return x;
        });
        asToldBehindAnew("closed, a TURN was PASSED", () -> {
            GeoThreads x = Made.open();
            x.run(5);
            x.close();
            return x;
        });
        asToldBehindAnew("OPEN, one to be INTERRUPTED", () -> {
            GeoThreads x = Made.open();
            x.interrupt(0);
            x.interrupt(2);
            return x;
        });
        GeoThreads x = new GeoThreads(2, 0);
        x.way(false, 1, 1, 0, 0, 9);
        x.way(false, 9, 2, 0, 0, 9);
        x.run(3);
        due.is("one is to be STOPPED", x.taken(), 0);
        x.anew();
        x.turn(1);
        x.turn(0);
        x.turn(0);
        x.turn(1);
        x.run(3);
        due.are("not any more", Ask.told(x, 1), 0, UNDER_WAY, 0, 1, 2, 1, 0, 0, 10);
    }

    /** Behind anew() all is as if no run had been, and the next run goes as the first one. */
    private static void asToldBehindAnew(String which, Supplier<GeoThreads> made) {
        GeoThreads x = made.get();
        GeoThreads y = Made.told();
        due.is(which, x.anew(), 3);
        due.are(which + ", at first", Ask.run(x), Ask.run(y));
        due.are(which + ", the grids", Ask.grids(x), Ask.grids(y));
        for (int i = 0; i < 6; i++) due.is(which + ", run", x.run(2), y.run(2));
        due.are(which + ", amid the run", Ask.run(x), Ask.run(y));
        due.is(which + ", run", x.run(1000), y.run(1000));
        due.are(which + ", its end", Ask.run(x), Ask.run(y));
    }
}
