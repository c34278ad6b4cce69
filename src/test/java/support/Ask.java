import java.util.ArrayList;
import java.util.Arrays;
import java.util.List;

/** Rows of answers of one object. */
final class Ask {
    private Ask() {
    }

    /** Sort, STATE, FAULT, STEPS, TURNS, PARTS, THREAD, LOST, RANK. */
    static long[] told(GeoThreads x, int task) {
        long[] row = new long[9];
        for (int i = 0; i < row.length; i++) row[i] = x.told(task, i);
        return row;
    }

    static long[] best(GeoThreads x, int search) {
        long[] row = new long[4];
        for (int i = 0; i < row.length; i++) row[i] = x.best(search, i);
        return row;
    }

    static long[] count(GeoThreads x) {
        long[] row = new long[9];
        for (int i = 0; i < row.length; i++) row[i] = x.count(i);
        return row;
    }

    static long[] notes(GeoThreads x) {
        long[] row = new long[x.count(7)];
        for (int i = 0; i < row.length; i++) row[i] = x.note(i);
        return row;
    }

    static long[] states(GeoThreads x) {
        long[] row = new long[x.count(1)];
        for (int i = 0; i < row.length; i++) row[i] = x.told(i, 1);
        return row;
    }

    /** The ITEMS of a LINE as a KIND, NO behind the last one. */
    static long[] items(GeoThreads x, int grid, int kind, int line) {
        long[] row = new long[Math.max(0, x.size(grid, line)) + 1];
        for (int k = 0; k < row.length; k++) row[k] = x.item(grid, kind, line, k);
        return row;
    }

    /** All that can be asked of a run, and of tasks and searches. */
    static long[] run(GeoThreads x) {
        List<long[]> rows = new ArrayList<>();
        rows.add(count(x));
        rows.add(new long[] {x.taken()});
        int tasks = x.count(1);
        for (int i = 0; i < tasks; i++) {
            rows.add(told(x, i));
            rows.add(new long[] {x.answer(i)});
        }
        int searches = x.count(2);
        for (int i = 0; i < searches; i++) rows.add(best(x, i));
        rows.add(notes(x));
        for (int i = 0; i < 6; i++) rows.add(new long[] {x.finished(i)});
        return joined(rows);
    }

    /** All that can be asked of the grids. */
    static long[] grids(GeoThreads x) {
        List<long[]> rows = new ArrayList<>();
        int grids = x.count(0);
        for (int g = 0; g < grids; g++) {
            int lines = x.size(g, -1);
            rows.add(new long[] {lines});
            for (int i = 0; i < lines; i++) {
                rows.add(new long[] {x.size(g, i)});
                for (int kind = 0; kind < 6; kind++) rows.add(items(x, g, kind, i));
            }
        }
        return joined(rows);
    }

    static void fill(GeoThreads x, int grid, int line, long... numbers) {
        for (int k = 0; k < numbers.length; k++) x.put(grid, line, k, numbers[k]);
    }

    private static long[] joined(List<long[]> rows) {
        return rows.stream().flatMapToLong(Arrays::stream).toArray();
    }
}
