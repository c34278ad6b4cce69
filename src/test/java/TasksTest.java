/** Promises 8 to 12: how tasks, searches and the schedule are told. */
public final class TasksTest {
    private static final int BAD = GeoThreads.BAD, STATE = GeoThreads.STATE, FULL = GeoThreads.FULL;
    private static final long NO = GeoThreads.NO;
    private static final int LEAST = Integer.MIN_VALUE, MOST = Integer.MAX_VALUE;
    private static final Due due = new Due();

    public static void main(String[] args) {
        way();
        reader();
        search();
        share();
        turn();
        due.end();
    }

    private static void way() {
        due.part("promise 8");
        GeoThreads x = new GeoThreads(2, 10);
        due.is("parts 0", x.way(false, 0, 1, 0, 0, 1), BAD);
        due.is("parts above", x.way(false, 100001, 1, 0, 0, 1), BAD);
        due.is("answer NO", x.way(false, 1, NO, 0, 0, 1), BAD);
        due.is("fails -1", x.way(false, 1, 1, -1, 0, 1), BAD);
        due.is("need -1", x.way(false, 1, 1, 0, -1, 1), BAD);
        due.is("need above", x.way(false, 1, 1, 0, 11, 1), BAD);
        due.is("budget 0", x.way(false, 1, 1, 0, 0, 0), BAD);
        due.is("budget above", x.way(false, 1, 1, 0, 0, 1001), BAD);
        due.is("least ints", x.way(true, LEAST, NO, LEAST, LEAST, LEAST), BAD);
        due.is("none so far", x.count(1), 0);
        due.is("plain", x.way(false, 100000, NO + 1, MOST, 10, 1000), 0);
        due.is("doubling", x.way(true, 1, Long.MAX_VALUE, 1, 0, 1), 1);
        due.are("told of it", Ask.told(x, 0), 0, 0, 0, 0, 0, 0, GeoThreads.NONE, 0, 10);
        due.are("told of it", Ask.told(x, 1), 1, 0, 0, 0, 0, 0, GeoThreads.NONE, 0, 11);
        for (int i = 2; i < 20; i++) due.is("the next", x.way(false, 1, i, 0, 0, 1), i);
        due.is("FULL", x.way(false, 1, 1, 0, 0, 1), FULL);
        due.is("BAD ahead of FULL", x.way(false, 0, 1, 0, 0, 1), BAD);
        x.run(1);
        due.is("STATE ahead of FULL", x.way(false, 1, 1, 0, 0, 1), STATE);
        due.is("BAD ahead of STATE", x.way(false, 1, 1, 0, 0, 0), BAD);
        GeoThreads y = new GeoThreads(1, 0);
        y.run(1);
        due.is("behind a run that is over", y.way(false, 1, 1, 0, 0, 1), 0);
        due.is("it WAITS", y.told(0, 1), 0);
        due.is("no run for it", y.run(1), STATE);
        due.is("anew", y.anew(), 1);
        due.is("a run for it", y.run(2), 1);
    }

    private static void reader() {
        due.part("promise 9");
        GeoThreads x = new GeoThreads(1, 10);
        due.is("no grid", x.reader(false, 0, 0, 0, 1), BAD);
        x.grid(2, 1, 1);
        due.is("grid -1", x.reader(false, -1, 2, 0, 1), BAD);
        due.is("grid 1", x.reader(false, 1, 2, 0, 1), BAD);
        due.is("kind -1", x.reader(false, 0, -1, 0, 1), BAD);
        due.is("kind 6", x.reader(false, 0, 6, 0, 1), BAD);
        due.is("need -1", x.reader(false, 0, 2, -1, 1), BAD);
        due.is("need above", x.reader(false, 0, 2, 11, 1), BAD);
        due.is("budget 0", x.reader(false, 0, 2, 0, 0), BAD);
        due.is("budget above", x.reader(false, 0, 2, 0, 1001), BAD);
        due.is("reader", x.reader(false, 0, 2, 10, 1000), 0);
        due.is("careful, as another kind", x.reader(true, 0, 5, 0, 1), 1);
        due.are("told of it", Ask.told(x, 0), 2, 0, 0, 0, 0, 0, GeoThreads.NONE, 0, 10);
        due.are("told of it", Ask.told(x, 1), 3, 0, 0, 0, 0, 0, GeoThreads.NONE, 0, 12);
        for (int i = 2; i < 20; i++) due.is("the next", x.reader(false, 0, 2, 0, 1), i);
        due.is("FULL", x.reader(false, 0, 2, 0, 1), FULL);
        x.run(1);
        due.is("STATE ahead of FULL", x.reader(false, 0, 2, 0, 1), STATE);
        due.is("BAD ahead of STATE", x.reader(false, 1, 2, 0, 1), BAD);
    }

    private static void search() {
        due.part("promise 10");
        GeoThreads x = new GeoThreads(1, 10);
        due.is("no grid", x.search(0, 0, 1, 0), BAD);
        x.grid(2, 1, 1);
        due.is("grid -1", x.search(-1, 2, 1, 0), BAD);
        due.is("kind -1", x.search(0, -1, 1, 0), BAD);
        due.is("kind 6", x.search(0, 6, 1, 0), BAD);
        due.is("divisor -1", x.search(0, 2, -1, 0), BAD);
        due.is("divisor above", x.search(0, 2, 101, 0), BAD);
        due.is("limit -1", x.search(0, 2, 1, -1), BAD);
        due.is("limit NO", x.search(0, 2, 1, NO), BAD);
        due.is("none so far", x.count(2), 0);
        due.is("least", x.search(0, 2, 0, 0), 0);
        due.is("most", x.search(0, 5, 100, Long.MAX_VALUE), 1);
        due.are("best of it", Ask.best(x, 0), NO, GeoThreads.NONE, 0, 0);
        due.are("best of it", Ask.best(x, 1), NO, GeoThreads.NONE, Long.MAX_VALUE, 0);
        for (int i = 2; i < 8; i++) due.is("the next", x.search(0, 2, 1, 5), i);
        due.is("FULL", x.search(0, 2, 1, 5), FULL);
        due.is("BAD ahead of FULL", x.search(0, 2, 101, 5), BAD);
        due.is("how many", x.count(2), 8);
        x.way(false, 9, 1, 0, 0, 9);
        x.run(1);
        due.is("STATE ahead of FULL", x.search(0, 2, 1, 5), STATE);
        due.is("BAD ahead of STATE", x.search(0, 2, 101, 5), BAD);
        GeoThreads y = new GeoThreads(1, 0);
        y.grid(2, 1, 1);
        y.run(1);
        due.is("behind a run that is over", y.search(0, 2, 1, 7), 0);
        due.are("best of it", Ask.best(y, 0), NO, GeoThreads.NONE, 7, 0);
    }

    private static void share() {
        due.part("promise 11");
        GeoThreads x = new GeoThreads(1, 10);
        due.is("no search", x.share(0, 0, 1, 0, 1), BAD);
        x.grid(2, 1, 1);
        x.search(0, 2, 1, 5);
        due.is("search -1", x.share(-1, 0, 1, 0, 1), BAD);
        due.is("search 1", x.share(1, 0, 1, 0, 1), BAD);
        due.is("from -1", x.share(0, -1, 1, 0, 1), BAD);
        due.is("from above to", x.share(0, 2, 1, 0, 1), BAD);
        due.is("to above", x.share(0, 0, 21, 0, 1), BAD);
        due.is("need -1", x.share(0, 0, 1, -1, 1), BAD);
        due.is("need above", x.share(0, 0, 1, 11, 1), BAD);
        due.is("budget 0", x.share(0, 0, 1, 0, 0), BAD);
        due.is("budget above", x.share(0, 0, 1, 0, 1001), BAD);
        due.is("all", x.share(0, 0, 20, 10, 1000), 0);
        due.is("none", x.share(0, 20, 20, 0, 1), 1);
        due.are("told of it", Ask.told(x, 0), 4, 0, 0, 0, 0, 0, GeoThreads.NONE, 0, 30);
        for (int i = 2; i < 20; i++) due.is("the next", x.share(0, 0, 1, 0, 1), i);
        due.is("FULL", x.share(0, 0, 1, 0, 1), FULL);
        x.run(1);
        due.is("STATE ahead of FULL", x.share(0, 0, 1, 0, 1), STATE);
        due.is("BAD ahead of STATE", x.share(0, 0, 21, 0, 1), BAD);
    }

    private static void turn() {
        due.part("promise 12");
        GeoThreads x = new GeoThreads(3, 10);
        due.is("thread -1", x.turn(-1), BAD);
        due.is("thread 3", x.turn(3), BAD);
        for (int i = 1; i <= 400; i++) due.is("the next", x.turn(i % 3), i);
        due.is("FULL", x.turn(0), FULL);
        due.is("BAD ahead of FULL", x.turn(3), BAD);
        x.way(false, 9, 1, 0, 0, 9);
        x.run(1);
        due.is("STATE ahead of FULL", x.turn(0), STATE);
        due.is("BAD ahead of STATE", x.turn(3), BAD);
        due.is("its first thread", x.told(0, 6), 1);

        GeoThreads y = new GeoThreads(3, 10);
        for (int i = 0; i < 6; i++) y.way(false, 50, i, 0, 0, 50);
        y.turn(2);
        y.turn(2);
        y.run(4);
        due.are("the schedule, then thread 0 on", Ask.notes(y), 21, 101, 211);
        due.is("second turn was a step", y.told(0, 3), 1);
        y.anew();
        y.turn(1);
        y.run(4);
        due.are("the schedule stays, and grows", Ask.notes(y), 21, 111, 201);
    }
}
