/** Objects with something of each sort, at each point of a run. */
final class Made {
    private Made() {
    }

    /** Ints (5, 6; MISSING; 7, 0) and floats (3), a search, a share of it, a careful reader, a doubling way; no run. */
    static GeoThreads told() {
        GeoThreads x = new GeoThreads(2, 10);
        x.grid(2, 3, 2);
        x.line(0, 1, 13);
        Ask.fill(x, 0, 0, 5, 6);
        Ask.fill(x, 0, 2, 7, 0);
        x.grid(4, 1, 1);
        x.put(1, 0, 0, 3);
        x.search(0, 2, 1, 100);
        x.share(0, 0, 3, 2, 9);
        x.reader(true, 0, 2, 3, 9);
        x.way(true, 9, 4, 0, 10, 9);
        x.turn(1);
        return x;
    }

    /** The share is under way on thread 1, the reader on thread 0, the way waits for memory. */
    static GeoThreads open() {
        GeoThreads x = told();
        x.run(4);
        return x;
    }

    static GeoThreads over() {
        GeoThreads x = told();
        x.run(1000);
        return x;
    }

    static GeoThreads closed() {
        GeoThreads x = open();
        x.close();
        return x;
    }

    static GeoThreads withSixGrids() {
        GeoThreads x = told();
        for (int i = 2; i < 6; i++) x.grid(0, 0, 0);
        return x;
    }

    static GeoThreads withTwentyTasks() {
        GeoThreads x = told();
        for (int i = 3; i < 20; i++) x.way(false, 1, i, 0, 0, 1);
        return x;
    }

    static GeoThreads withEightSearches() {
        GeoThreads x = told();
        for (int i = 1; i < 8; i++) x.search(0, 2, i, i);
        return x;
    }

    /** The object with the run at hand OPEN. */
    static GeoThreads opened(GeoThreads x) {
        x.run(4);
        return x;
    }
}
