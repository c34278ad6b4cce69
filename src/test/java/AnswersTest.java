/** Promises 17 to 24: what is asked of a run. */
public final class AnswersTest {
    private static final int BAD = GeoThreads.BAD, NONE = GeoThreads.NONE;
    private static final long NO = GeoThreads.NO;
    private static final int LEAST = Integer.MIN_VALUE, MOST = Integer.MAX_VALUE;
    private static final Due due = new Due();

    public static void main(String[] args) {
        GeoThreads x = mixed();
        taken(x);
        answer(x);
        told(x);
        best(x);
        note(x);
        finished(x);
        count(x);
        equal(x);
        equalUntouched();
        equalOfAll();
        due.end();
    }

    /** A run of all sorts, over. */
    private static GeoThreads mixed() {
        GeoThreads x = new GeoThreads(2, 8);
        x.grid(3, 3, 2);
        x.line(0, 1, 13);
        Ask.fill(x, 0, 0, 4, 2);
        Ask.fill(x, 0, 2, 3, 1);
        x.search(0, 3, 2, 9);
        x.reader(false, 0, 3, 5, 9);
        x.reader(true, 0, 3, 4, 9);
        x.share(0, 0, 3, 0, 9);
        x.way(true, 3, -6, 0, 8, 9);
        x.run(1000);
        return x;
    }

    private static void taken(GeoThreads x) {
        due.part("promise 17");
        due.is("taken", x.taken(), 1);
        due.is("of a new one", new GeoThreads(1, 1).taken(), NONE);
        GeoThreads y = new GeoThreads(1, 1);
        y.way(false, 1, 1, 1, 0, 1);
        y.run(9);
        due.is("all failed", y.taken(), NONE);
    }

    private static void answer(GeoThreads x) {
        due.part("promise 18");
        due.is("of a failed one", x.answer(0), NO);
        due.is("of the taken one", x.answer(1), 10);
        due.is("of a share", x.answer(2), NO);
        due.is("of a stopped one", x.answer(3), NO);
        due.is("of none", x.answer(4), NO);
        due.is("of none below", x.answer(-1), NO);
        due.is("of none far off", x.answer(LEAST), NO);
        GeoThreads y = new GeoThreads(1, 1);
        y.way(true, 2, -6, 0, 0, 9);
        y.run(2);
        due.is("under way", y.answer(0), NO);
        y.run(1);
        due.is("PROVED", y.answer(0), -6);
    }

    private static void told(GeoThreads x) {
        due.part("promise 19");
        due.are("a reader", Ask.told(x, 0), 2, 3, 1, 3, 4, 2, 0, 0, 10);
        due.are("a careful one", Ask.told(x, 1), 3, 2, 0, 6, 7, 4, 0, 1, 12);
        due.are("a share", Ask.told(x, 2), 4, 3, 1, 3, 4, 2, 1, 1, 30);
        due.are("one that waited", Ask.told(x, 3), 1, 5, 0, 0, 0, 0, NONE, 0, 11);
        due.is("task 4", x.told(4, 0), BAD);
        due.is("task -1", x.told(-1, 0), BAD);
        due.is("what -1", x.told(0, -1), BAD);
        due.is("what 9", x.told(0, 9), BAD);
        due.is("both", x.told(MOST, LEAST), BAD);
    }

    private static void best(GeoThreads x) {
        due.part("promise 20");
        due.are("best", Ask.best(x, 0), 2, 2, 2, 1);
        due.is("search 1", x.best(1, 0), BAD);
        due.is("search -1", x.best(-1, 0), BAD);
        due.is("what -1", x.best(0, -1), BAD);
        due.is("what 4", x.best(0, 4), BAD);
    }

    private static void note(GeoThreads x) {
        due.part("promise 21");
        due.are("notes", Ask.notes(x), 1, 211, 3, 213, 101, 102);
        due.is("note 6", x.note(6), NONE);
        due.is("note -1", x.note(-1), NONE);
        due.is("note far off", x.note(MOST), NONE);
        due.is("note far below", x.note(LEAST), NONE);
        GeoThreads y = new GeoThreads(6, 0);
        for (int i = 0; i < 20; i++) y.way(false, 2, i, 1, 0, 9);
        y.run(1000);
        due.is("the most notes", y.count(7), 40);
        due.is("the last one", y.note(39), 1913);
    }

    private static void finished(GeoThreads x) {
        due.part("promise 22");
        due.is("thread 0", x.finished(0), 2);
        due.is("thread 1", x.finished(1), 1);
        due.is("thread 2", x.finished(2), BAD);
        due.is("thread -1", x.finished(-1), BAD);
    }

    private static void count(GeoThreads x) {
        due.part("promise 23");
        due.are("count", Ask.count(x), 1, 4, 1, 21, 6, 8, 5, 6, 2);
        due.is("what -1", x.count(-1), BAD);
        due.is("what 9", x.count(9), BAD);
    }

    private static void equal(GeoThreads x) {
        due.part("promise 24");
        for (int n = 1; n <= 6; n++) due.is("equal(" + n + ")", x.equal(n), 1);
        due.is("equal(0)", x.equal(0), BAD);
        due.is("equal(7)", x.equal(7), BAD);
        due.is("equal(-1)", x.equal(-1), BAD);
        due.is("of a new one", new GeoThreads(1, 0).equal(6), 1);
        GeoThreads y = new GeoThreads(1, 0);
        y.way(false, 9, 1, 0, 0, 9);
        y.way(false, 1, 2, 0, 0, 9);
        y.way(false, 9, 3, 1, 0, 9);
        due.is("ways behind the taken one may end otherwise", y.equal(3), 1);
        y.grid(2, 2, 4);
        y.line(0, 0, 13);
        Ask.fill(y, 0, 1, 3, 3, 3, 3);
        y.search(0, 2, 3, 4);
        y.share(0, 0, 9, 0, 9);
        y.share(0, 1, 2, 0, 1);
        y.share(0, 1, 3, 0, 1);
        y.turn(0);
        due.is("shares that are proved, failed, spent", y.equal(4), 1);
        due.is("no run by it", y.count(8), 0);
    }

    /** Everything that can be asked is as it was, and the run goes on as it would have. */
    private static void equalUntouched() {
        due.part("promise 24, the run at hand");
        GeoThreads x = new GeoThreads(2, 8);
        GeoThreads y = new GeoThreads(2, 8);
        for (GeoThreads each : new GeoThreads[] {x, y}) {
            each.grid(3, 3, 2);
            each.line(0, 1, 13);
            each.search(0, 3, 2, 9);
            each.share(0, 0, 3, 0, 9);
            each.way(false, 5, 1, 0, 8, 9);
            each.turn(1);
            each.run(4);
            each.interrupt(1);
        }
        due.is("while OPEN", x.equal(3), 1);
        due.are("count", Ask.count(x), Ask.count(y));
        due.are("notes", Ask.notes(x), Ask.notes(y));
        due.are("told", Ask.told(x, 0), Ask.told(y, 0));
        due.are("told", Ask.told(x, 1), Ask.told(y, 1));
        due.are("best", Ask.best(x, 0), Ask.best(y, 0));
        due.is("goes on", x.run(1000), y.run(1000));
        due.are("count", Ask.count(x), Ask.count(y));
        due.are("notes", Ask.notes(x), Ask.notes(y));
        due.are("best", Ask.best(x, 0), Ask.best(y, 0));
    }

    /** The dearest ones end, too. */
    private static void equalOfAll() {
        due.part("promise 24, of many");
        GeoThreads x = new GeoThreads(6, 1);
        for (int i = 0; i < 20; i++) x.way(false, 100000, i, 0, 1, 1000);
        for (int n = 1; n <= 6; n++) due.is("equal(" + n + ")", x.equal(n), 1);
        int calls = 0;
        int open = 0;
        while (open == 0 && calls < 400) {
            open = x.run(1000);
            calls++;
        }
        due.is("none is taken", open, 2);
        // a task has every sixth turn, and the next thread takes the next task
        due.is("turns", x.count(3), 20 * (6 * 1000 + 1));
    }
}
