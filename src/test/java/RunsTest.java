/** Promises 13 to 16: run, interrupt, close, anew; and what "Terms" says of turns. */
public final class RunsTest {
    private static final int BAD = GeoThreads.BAD, STATE = GeoThreads.STATE, NONE = GeoThreads.NONE;
    private static final long NO = GeoThreads.NO;
    private static final Due due = new Due();

    public static void main(String[] args) {
        run();
        turns();
        takenByOrder();
        interrupt();
        interruptWaiting();
        close();
        anew();
        due.end();
    }

    private static void run() {
        due.part("promise 13");
        GeoThreads x = new GeoThreads(2, 10);
        due.is("n 0", x.run(0), BAD);
        due.is("n -1", x.run(-1), BAD);
        due.is("n 1001", x.run(1001), BAD);
        due.is("no run by it", x.count(8), 0);
        due.is("without tasks", x.run(1000), 2);
        due.are("no turn", Ask.count(x), 0, 0, 0, 0, 0, 10, 0, 0, 2);
        due.is("it was over", x.run(1), STATE);
        due.is("BAD ahead of STATE", x.run(0), BAD);
        x.way(false, 2, 5, 0, 0, 9);
        x.anew();
        due.is("OPEN", x.run(1), 0);
        due.is("it is OPEN", x.count(8), 1);
        due.is("OPEN", x.run(2), 0);
        due.is("passed", x.count(4), 1);
        due.is("OPEN", x.run(1), 0);
        due.is("over with its last turn", x.run(1), 1);
        due.is("turns", x.count(3), 5);
        due.is("it is over", x.count(8), 2);
        GeoThreads y = new GeoThreads(1, 10);
        y.way(false, 2, 5, 1, 0, 9);
        due.is("up to n turns, none is taken", y.run(1000), 2);
        due.is("no more than needed", y.count(3), 2);
    }

    private static void turns() {
        due.part("turns");
        GeoThreads x = new GeoThreads(3, 10);
        x.way(false, 9, 1, 1, 6, 9);
        x.way(false, 9, 2, 1, 5, 9);
        x.way(false, 9, 3, 1, 4, 9);
        x.way(false, 9, 4, 1, 0, 9);
        x.run(3);
        due.are("the least that fits", Ask.notes(x), 1, 211, 321);
        due.is("free", x.count(5), 0);
        due.is("most", x.count(6), 10);
        x.run(1);
        due.is("given back", x.count(5), 6);
        x.run(1);
        x.run(1);
        due.are("ended ones", Ask.notes(x), 1, 211, 321, 3, 213, 323);
        x.run(1);
        due.are("the least then", Ask.notes(x), 1, 211, 321, 3, 213, 323, 101);
        x.run(2);
        due.is("two passed", x.count(4), 2);
        due.is("over", x.run(1), 2);
        due.are("count", Ask.count(x), 0, 4, 0, 10, 2, 10, 10, 8, 2);
        due.is("finished by 0", x.finished(0), 2);
        due.is("finished by 1", x.finished(1), 1);
        due.is("finished by 2", x.finished(2), 1);

        GeoThreads y = new GeoThreads(2, 1);
        y.turn(1);
        y.turn(1);
        y.turn(1);
        y.turn(0);
        y.way(false, 3, 1, 0, 1, 9);
        y.way(false, 3, 2, 0, 1, 9);
        y.run(4);
        due.is("passed by memory", y.count(4), 1);
        due.are("schedule", Ask.told(y, 0), 0, 1, 0, 2, 3, 2, 1, 0, 10);
        y.run(1);
        due.is("thread 0 behind the schedule", y.count(4), 2);
        due.is("thread 1 then", y.run(1), 1);
        due.are("stopped by no thread", Ask.told(y, 1), 0, 5, 0, 0, 0, 0, NONE, 0, 10);
    }

    private static void takenByOrder() {
        due.part("taken");
        GeoThreads x = new GeoThreads(3, 0);
        x.way(false, 3, 10, 3, 0, 9);
        x.way(false, 1, 11, 0, 0, 9);
        x.way(false, 9, 12, 0, 0, 9);
        x.way(false, 9, 13, 0, 0, 9);
        x.run(5);
        due.are("one is PROVED", Ask.states(x), 1, 2, 1, 0);
        due.is("not taken: one below is under way", x.taken(), NONE);
        due.is("but it has its answer", x.answer(1), 11);
        x.run(3);
        due.are("the last WAITS no more", Ask.states(x), 1, 2, 1, 1);
        due.is("OPEN", x.run(2), 0);
        due.is("taken as the one below fails", x.taken(), 1);
        due.are("those behind go on till their turn", Ask.states(x), 3, 2, 1, 1);
        due.is("OPEN", x.run(1), 0);
        due.is("over", x.run(2), 1);
        due.are("stopped by their threads", Ask.states(x), 3, 2, 5, 5);
        due.are("notes", Ask.notes(x), 1, 111, 221, 112, 311, 3, 315, 225);
        due.are("turns: taken, left", Ask.told(x, 3), 0, 5, 0, 0, 2, 0, 1, 0, 10);
        due.are("turns: taken, steps, left", Ask.told(x, 2), 0, 5, 0, 2, 4, 2, 2, 0, 10);
        due.is("finished by 1", x.finished(1), 2);
        due.is("no answer of a stopped one", x.answer(3), NO);

        GeoThreads y = new GeoThreads(3, 0);
        y.grid(2, 1, 6);
        y.search(0, 2, 1, 5);
        y.share(0, 0, 1, 0, 9);
        y.way(false, 1, 11, 0, 0, 9);
        y.way(false, 1, 12, 0, 0, 9);
        y.share(0, 0, 1, 0, 9);
        due.is("shares go on", y.run(5), 0);
        due.is("a share below is no way", y.taken(), 1);
        due.are("shares are not stopped", Ask.states(y), 1, 2, 1, 0);
        due.is("over", y.run(1000), 1);
        due.are("ends", Ask.states(y), 2, 2, 5, 2);

        GeoThreads z = new GeoThreads(2, 0);
        z.way(false, 4, 1, 4, 0, 9);
        z.way(false, 1, 2, 0, 0, 9);
        z.way(false, 1, 3, 0, 0, 9);
        due.is("both behind are PROVED", z.run(1000), 1);
        due.is("the least is taken, once", z.taken(), 1);
        due.are("a PROVED one stays", Ask.states(z), 3, 2, 2);
        due.is("with its answer", z.answer(2), 3);
    }

    private static void interrupt() {
        due.part("promise 14");
        GeoThreads x = new GeoThreads(2, 10);
        due.is("no task", x.interrupt(0), BAD);
        x.way(false, 5, 1, 0, 3, 9);
        x.way(false, 5, 2, 0, 3, 9);
        due.is("no run", x.interrupt(0), STATE);
        due.is("task -1", x.interrupt(-1), BAD);
        due.is("task 2", x.interrupt(2), BAD);
        x.run(2);
        due.is("under way", x.interrupt(0), 1);
        due.is("still under way", x.told(0, 1), 1);
        due.is("once more", x.interrupt(0), 1);
        due.is("its memory is not free", x.count(5), 4);
        x.run(1);
        due.are("interrupted by its thread", Ask.told(x, 0), 0, 6, 0, 0, 2, 0, 0, 0, 10);
        due.is("its memory is free", x.count(5), 7);
        due.are("notes", Ask.notes(x), 1, 111, 6);
        due.is("finished", x.finished(0), 1);
        due.is("it ENDED", x.interrupt(0), 0);
        due.is("over", x.run(1000), 1);
        due.is("the other is taken", x.taken(), 1);
        due.is("it is over", x.interrupt(1), STATE);
        due.is("BAD ahead of STATE", x.interrupt(2), BAD);

        GeoThreads y = new GeoThreads(2, 0);
        y.way(false, 1, 1, 0, 0, 9);
        y.way(false, 5, 2, 0, 0, 9);
        y.run(2);
        y.interrupt(1);
        y.run(1);
        due.is("taken", y.taken(), 0);
        y.run(1);
        due.is("STOPPED ahead of INTERRUPTED", y.told(1, 1), 5);
        due.are("notes", Ask.notes(y), 1, 111, 2, 115);

        GeoThreads z = new GeoThreads(2, 0);
        z.way(false, 1, 1, 0, 0, 9);
        z.way(false, 5, 2, 0, 0, 9);
        z.run(3);
        due.is("one that is to be stopped", z.interrupt(1), 1);
        due.is("over", z.run(1), 1);
        due.is("STOPPED still", z.told(1, 1), 5);
    }

    private static void interruptWaiting() {
        due.part("promise 14, waiting");
        GeoThreads x = new GeoThreads(1, 0);
        x.turn(0);
        x.way(false, 9, 1, 0, 0, 9);
        x.way(false, 9, 2, 0, 0, 9);
        x.run(1);
        due.is("one that WAITS", x.interrupt(1), 1);
        due.are("by no thread", Ask.told(x, 1), 0, 6, 0, 0, 0, 0, NONE, 0, 10);
        due.are("no note", Ask.notes(x), 1);
        due.is("it ENDED", x.interrupt(1), 0);

        GeoThreads y = new GeoThreads(2, 2);
        y.way(false, 9, 1, 0, 2, 1);
        y.way(false, 2, 2, 0, 2, 9);
        y.way(false, 1, 3, 0, 0, 9);
        y.way(false, 1, 4, 0, 2, 9);
        y.run(4);
        due.are("one is spent, one PROVED", Ask.states(y), 4, 0, 2, 0);
        due.is("nothing is taken", y.taken(), NONE);
        due.is("the one between", y.interrupt(1), 1);
        due.is("what is TAKEN is looked at", y.taken(), 2);
        due.are("those behind are stopped", Ask.states(y), 4, 6, 2, 5);
        due.is("OPEN still", y.count(8), 1);
        due.is("over with the next run()", y.run(1), 1);
        due.is("without a turn", y.count(3), 4);
        due.is("it is over", y.count(8), 2);

        GeoThreads z = new GeoThreads(2, 0);
        z.way(false, 1, 1, 0, 0, 9);
        z.way(false, 1, 2, 1, 0, 9);
        z.turn(0);
        z.turn(0);
        z.run(1);
        z.interrupt(0);
        z.interrupt(1);
        due.is("over", z.run(1000), 2);
        due.are("both", Ask.states(z), 6, 6);
    }

    private static void close() {
        due.part("promise 15");
        GeoThreads x = new GeoThreads(3, 10);
        due.is("none is OPEN", x.close(), STATE);
        x.way(false, 1, 0, 0, 1, 9);
        x.way(false, 5, 1, 0, 2, 9);
        x.way(false, 5, 2, 0, 3, 9);
        x.way(false, 5, 3, 0, 9, 9);
        due.is("none is OPEN", x.close(), STATE);
        x.turn(2);
        x.turn(0);
        x.turn(1);
        x.run(3);
        x.interrupt(1);
        due.is("all four", x.close(), 4);
        due.is("closed", x.count(8), 3);
        due.are("the highest thread first", Ask.notes(x), 21, 101, 211, 25, 215, 105);
        due.are("stopped", Ask.states(x), 5, 5, 5, 5);
        due.are("by its thread, no turn", Ask.told(x, 0), 0, 5, 0, 0, 1, 0, 2, 0, 10);
        due.are("by none", Ask.told(x, 3), 0, 5, 0, 0, 0, 0, NONE, 0, 10);
        due.are("memory is free, no turn", Ask.count(x), 0, 4, 0, 3, 0, 10, 6, 6, 3);
        due.is("finished", x.finished(2), 1);
        due.is("nothing is taken", x.taken(), NONE);
        due.is("none is OPEN", x.close(), STATE);
        due.is("closed before", x.run(1), STATE);
        due.is("no run is OPEN", x.interrupt(0), STATE);

        GeoThreads y = new GeoThreads(2, 0);
        y.way(false, 9, 0, 0, 0, 9);
        y.way(false, 1, 1, 0, 0, 9);
        y.run(4);
        due.are("one is PROVED", Ask.states(y), 1, 2);
        due.is("one", y.close(), 1);
        due.is("not taken by it", y.taken(), NONE);
        due.is("its answer stays", y.answer(1), 1);
        y.anew();
        y.run(1);
        y.interrupt(1);
        y.interrupt(0);
        y.run(1);
        y.run(1);
        due.is("over: none is OPEN", y.close(), STATE);

        GeoThreads z = new GeoThreads(1, 0);
        z.way(false, 1, 1, 0, 0, 9);
        z.way(false, 9, 1, 0, 0, 9);
        z.grid(0, 1, 1);
        z.search(0, 0, 1, 1);
        z.share(0, 0, 1, 0, 1);
        z.run(2);
        due.is("taken ahead of it", z.taken(), 0);
        due.is("one", z.close(), 1);
        due.is("stays taken", z.taken(), 0);

        GeoThreads u = new GeoThreads(1, 0);
        u.way(false, 1, 1, 0, 0, 1);
        u.way(false, 1, 1, 0, 0, 1);
        u.turn(0);
        u.grid(0, 0, 0);
        u.reader(false, 0, 1, 0, 1);
        u.run(1);
        u.interrupt(1);
        u.interrupt(2);
        due.is("the one left", u.close(), 1);
    }

    private static void anew() {
        due.part("promise 16");
        GeoThreads x = new GeoThreads(2, 10);
        due.is("no tasks", x.anew(), 0);
        due.is("no run", x.count(8), 0);
        x.grid(2, 2, 3);
        x.line(0, 0, 13);
        x.search(0, 2, 1, 50);
        x.share(0, 0, 2, 2, 9);
        x.reader(true, 0, 2, 3, 9);
        x.way(true, 9, 4, 0, 10, 9);
        x.turn(1);
        due.is("run", x.run(1000), 1);
        long[] count = Ask.count(x);
        long[] notes = Ask.notes(x);
        long[] share = Ask.told(x, 0);
        long[] careful = Ask.told(x, 1);
        due.is("all tasks", x.anew(), 3);
        due.are("count", Ask.count(x), 1, 3, 1, 0, 0, 10, 0, 0, 0);
        due.are("states", Ask.states(x), 0, 0, 0);
        due.are("told", Ask.told(x, 0), 4, 0, 0, 0, 0, 0, NONE, 0, 30);
        due.are("told", Ask.told(x, 1), 3, 0, 0, 0, 0, 0, NONE, 0, 12);
        due.are("best", Ask.best(x, 0), NO, NONE, 50, 0);
        due.is("taken", x.taken(), NONE);
        due.is("answer", x.answer(1), NO);
        due.is("notes", x.note(0), NONE);
        due.is("finished", x.finished(0) + x.finished(1), 0);
        due.is("run anew", x.run(1000), 1);
        due.are("the same count", Ask.count(x), count);
        due.are("the same notes", Ask.notes(x), notes);
        due.are("the same share", Ask.told(x, 0), share);
        due.are("the same careful one", Ask.told(x, 1), careful);
        x.anew();
        x.run(3);
        x.interrupt(0);
        due.is("anew of an OPEN one", x.anew(), 3);
        due.are("count", Ask.count(x), 1, 3, 1, 0, 0, 10, 0, 0, 0);
        due.is("no run is OPEN", x.close(), STATE);
        due.is("run anew", x.run(1000), 1);
        due.are("no interrupt is left", Ask.told(x, 0), share);
        x.anew();
        x.run(3);
        x.close();
        due.is("anew of a closed one", x.anew(), 3);
        due.is("run anew", x.run(1000), 1);
        due.are("the same notes", Ask.notes(x), notes);
        x.anew();
        x.run(7);
        due.are("amid lines", Ask.states(x), 3, 1, 0);
        x.anew();
        due.is("run anew", x.run(1000), 1);
        due.are("as from the beginning", Ask.told(x, 1), careful);
        due.is("the same answer", x.answer(1), 0);
        x.anew();
        x.put(0, 1, 0, 8);
        x.run(1000);
        due.is("what was put between", x.answer(1), 8);
        due.is("and what the search found", x.best(0, 0), 8);
    }
}
