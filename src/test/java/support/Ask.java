/** Rows of answers of one object. */
final class Ask {
    private Ask() {
    }

    /** Sort, STATE, FAULT, STEPS, TURNS, PARTS, THREAD, LOST, RANK. */
    static long[] told(GeoThreads x, int task) {
        long[] row = new long[9];
        for (int i = 0; i < row.length; i++) row[i] = x.told(task, i);
        return row;
    }

    static long[] best(GeoThreads x, int search) {
        long[] row = new long[4];
        for (int i = 0; i < row.length; i++) row[i] = x.best(search, i);
        return row;
    }

    static long[] count(GeoThreads x) {
        long[] row = new long[9];
        for (int i = 0; i < row.length; i++) row[i] = x.count(i);
        return row;
    }

    static long[] notes(GeoThreads x) {
        long[] row = new long[x.count(7)];
        for (int i = 0; i < row.length; i++) row[i] = x.note(i);
        return row;
    }

    static long[] states(GeoThreads x) {
        long[] row = new long[x.count(1)];
        for (int i = 0; i < row.length; i++) row[i] = x.told(i, 1);
        return row;
    }

    static void fill(GeoThreads x, int grid, int line, long... numbers) {
        for (int k = 0; k < numbers.length; k++) x.put(grid, line, k, numbers[k]);
    }
}
