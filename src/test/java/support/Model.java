import java.lang.reflect.Array;
import java.util.ArrayList;
import java.util.HashMap;
import java.util.List;
import java.util.Map;
import java.util.Objects;

/**
 * The document once more, without a thought for speed: real Java arrays for lines, every condition asked
 * anew from all tasks, nothing counted ahead. It serves to compare random runs of calls.
 */
final class Model {
    private static final Class<?>[] KINDS = {byte.class, short.class, int.class, long.class, float.class, double.class};
    private static final int BAD = -1, STATE = -2, FULL = -3, NONE = -9;
    private static final long NO = Long.MIN_VALUE;

    static final class G {
        int kind;
        Object[] lines;
    }

    static final class S {
        G grid;
        int kind, divisor;
        long limit, told;
        Long best;
        int line;
    }

    static final class T {
        int sort, need, budget, parts, fails, kind, from, to;
        long answer;
        G grid;
        S search;
        int state, fault, steps, turns, done, thread = NONE, lost, over;
        boolean stop, interrupt;
        int line, item;
        long sum;

        boolean way() {
            return sort < 4;
        }

        boolean open() {
            return state < 2;
        }
    }

    private final int threads, memory;
    private final List<G> grids = new ArrayList<>();
    private final List<T> tasks = new ArrayList<>();
    private final List<S> searches = new ArrayList<>();
    private final List<Integer> schedule = new ArrayList<>();
    private final List<Integer> notes = new ArrayList<>();
    private final Map<Integer, Integer> finished = new HashMap<>();
    private int turns, passed, most, run, taken = NONE;

    Model(int threads, int memory) {
        this.threads = threads < 1 ? 1 : threads > 6 ? 6 : threads;
        this.memory = memory < 0 ? 0 : memory > 1000 ? 1000 : memory;
    }

    private static <E> E of(List<E> list, int i) {
        return i < 0 || i >= list.size() ? null : list.get(i);
    }

    private static boolean in(long a, long low, long high) {
        return a >= low && a <= high;
    }

    private static Object fresh(int kind, int m) {
        return m == 13 ? null : Array.newInstance(KINDS[kind], m);
    }

    private static long number(Object line, int k) {
        if (line instanceof float[] f) return (long) (f[k] * 4);
        if (line instanceof double[] d) return (long) (d[k] * 4);
        return Array.getLong(line, k);
    }

    private static long worth(Object line, int k) {
        long n = number(line, k);
        return n <= 0 ? 0 : n > 1000000 ? 1000000 : n;
    }

    int grid(int kind, int n, int m) {
        if (!in(kind, 0, 5) || n > 12 || m > 13) return BAD;
        if (run == 1) return STATE;
        if (grids.size() == 6) return FULL;
        if (n < 0 || m < 0) return -15;
        G g = new G();
        g.kind = kind;
        g.lines = new Object[n];
        for (int i = 0; i < n; i++) g.lines[i] = fresh(kind, m);
        grids.add(g);
        return grids.size() - 1;
    }

    int line(int grid, int i, int m) {
        G g = of(grids, grid);
        if (g == null || m > 13) return BAD;
        if (run == 1) return STATE;
        if (m < 0) return -15;
        if (!in(i, 0, g.lines.length - 1)) return -12;
        g.lines[i] = fresh(g.kind, m);
        return m;
    }

    int put(int grid, int i, int k, long v) {
        G g = of(grids, grid);
        if (g == null) return BAD;
        if (run == 1) return STATE;
        if (!in(i, 0, g.lines.length - 1)) return -12;
        Object line = g.lines[i];
        if (line == null) return -11;
        if (!in(k, 0, Array.getLength(line) - 1)) return -12;
        switch (g.kind) {
            case 0 -> ((byte[]) line)[k] = (byte) v;
            case 1 -> ((short[]) line)[k] = (short) v;
            case 2 -> ((int[]) line)[k] = (int) v;
            case 3 -> ((long[]) line)[k] = v;
            case 4 -> ((float[]) line)[k] = (float) v / 4;
            default -> ((double[]) line)[k] = (double) v / 4;
        }
        return 1;
    }

    long item(int grid, int kind, int i, int k) {
        G g = of(grids, grid);
        if (g == null || g.kind != kind || !in(i, 0, g.lines.length - 1) || g.lines[i] == null) return NO;
        return in(k, 0, Array.getLength(g.lines[i]) - 1) ? number(g.lines[i], k) : NO;
    }

    int lay(int grid, int i, int from, int j) {
        G g = of(grids, grid);
        G f = of(grids, from);
        if (g == null || f == null) return BAD;
        if (run == 1) return STATE;
        if (!in(j, 0, f.lines.length - 1) || !in(i, 0, g.lines.length - 1)) return -12;
        if (f.lines[j] != null && f.kind != g.kind) return -14;
        g.lines[i] = f.lines[j];
        return g.lines[i] == null ? 0 : 1;
    }

    int size(int grid, int i) {
        G g = of(grids, grid);
        if (g == null) return BAD;
        if (i == -1) return g.lines.length;
        if (!in(i, 0, g.lines.length - 1)) return -12;
        return g.lines[i] == null ? -11 : Array.getLength(g.lines[i]);
    }

    private int tell(T t, int need, int budget, boolean good) {
        if (!good || !in(need, 0, memory) || !in(budget, 1, 1000)) return BAD;
        if (run == 1) return STATE;
        if (tasks.size() == 20) return FULL;
        t.need = need;
        t.budget = budget;
        tasks.add(t);
        return tasks.size() - 1;
    }

    int way(boolean doubles, int parts, long answer, int fails, int need, int budget) {
        T t = new T();
        t.sort = doubles ? 1 : 0;
        t.parts = parts;
        t.answer = answer;
        t.fails = fails;
        return tell(t, need, budget, in(parts, 1, 100000) && answer != NO && fails >= 0);
    }

    int reader(boolean careful, int grid, int kind, int need, int budget) {
        T t = new T();
        t.sort = careful ? 3 : 2;
        t.grid = of(grids, grid);
        t.kind = kind;
        return tell(t, need, budget, t.grid != null && in(kind, 0, 5));
    }

    int search(int grid, int kind, int divisor, long limit) {
        S s = new S();
        s.grid = of(grids, grid);
        if (s.grid == null || !in(kind, 0, 5) || !in(divisor, 0, 100) || limit < 0) return BAD;
        if (run == 1) return STATE;
        if (searches.size() == 8) return FULL;
        s.kind = kind;
        s.divisor = divisor;
        s.told = limit;
        s.limit = limit;
        searches.add(s);
        return searches.size() - 1;
    }

    int share(int search, int from, int to, int need, int budget) {
        T t = new T();
        t.sort = 4;
        t.search = of(searches, search);
        t.from = from;
        t.to = to;
        t.line = from;
        return tell(t, need, budget, t.search != null && 0 <= from && from <= to && to <= 20);
    }

    int turn(int thread) {
        if (!in(thread, 0, threads - 1)) return BAD;
        if (run == 1) return STATE;
        if (schedule.size() == 400) return FULL;
        schedule.add(thread);
        return schedule.size();
    }

    int run(int n) {
        if (!in(n, 1, 1000)) return BAD;
        if (run > 1) return STATE;
        run = 1;
        for (int i = 0; i < n && anyOpen(); i++) {
            oneTurn(turns < schedule.size() ? schedule.get(turns) : (turns - schedule.size()) % threads);
        }
        if (anyOpen()) return 0;
        run = 2;
        for (T t : tasks) if (t.sort == 4 && t.state == 3) again(t);
        return taken == NONE ? 2 : 1;
    }

    private boolean anyOpen() {
        for (T t : tasks) if (t.open()) return true;
        return false;
    }

    private int used() {
        int all = 0;
        for (T t : tasks) if (t.state == 1) all += t.need;
        return all;
    }

    private void oneTurn(int thread) {
        turns++;
        T mine = null;
        for (T t : tasks) if (t.state == 1 && t.thread == thread) mine = t;
        if (mine != null) {
            mine.turns++;
            if (mine.stop) mine.state = 5;
            else if (mine.interrupt) mine.state = 6;
            else step(mine);
            if (!mine.open()) left(mine);
        } else {
            take(thread);
        }
        looked();
    }

    private void take(int thread) {
        for (T t : tasks) {
            if (t.state != 0 || t.need > memory - used()) continue;
            t.state = 1;
            t.thread = thread;
            t.turns++;
            most = Math.max(most, used());
            notes.add(100 * tasks.indexOf(t) + 10 * thread + 1);
            return;
        }
        passed++;
    }

    private void left(T t) {
        notes.add(100 * tasks.indexOf(t) + 10 * t.thread + t.state);
        finished.merge(t.thread, 1, Integer::sum);
    }

    private void looked() {
        if (taken != NONE) return;
        for (T t : tasks) {
            if (!t.way() || t.state != 2) continue;
            boolean first = true;
            for (T u : tasks.subList(0, tasks.indexOf(t))) if (u.way() && u.open()) first = false;
            if (!first) continue;
            taken = tasks.indexOf(t);
            for (T u : tasks.subList(taken + 1, tasks.size())) {
                if (u.way() && u.state == 0) u.state = 5;
                else if (u.way() && u.state == 1) u.stop = true;
            }
            return;
        }
    }

    private void fail(T t, int fault) {
        t.state = 3;
        t.fault = fault;
    }

    private void step(T t) {
        if (t.sort < 2) wayStep(t);
        else if (t.sort < 4) readerStep(t);
        else shareStep(t);
        t.steps++;
        if (t.state == 1 && (t.way() ? t.steps : t.over) >= t.budget) t.state = 4;
    }

    private void wayStep(T t) {
        long many = t.sort == 0 ? 1 : 1L << Math.min(t.steps, 40);
        for (long i = 0; i < many && t.state == 1; i++) {
            t.done++;
            if (t.done == t.fails) fail(t, 7);
            else if (t.done == t.parts) t.state = 2;
        }
    }

    private void readerStep(T t) {
        if (t.grid.kind != t.kind) {
            fail(t, 3);
            return;
        }
        for (; t.line < t.grid.lines.length; t.line++, t.item = 0) {
            Object line = t.grid.lines[t.line];
            if (line == null && t.sort == 2) {
                fail(t, 1);
                return;
            }
            if (line == null) {
                t.lost++;
                t.line++;
                return;
            }
            if (t.item < Array.getLength(line)) {
                t.sum += worth(line, t.item++);
                t.done++;
                return;
            }
        }
        t.state = 2;
        t.answer = t.sum;
    }

    private int lookAt(S s, int i) {
        if (s.grid.kind != s.kind) return 3;
        if (i >= s.grid.lines.length) return 2;
        return s.grid.lines[i] == null ? 1 : 0;
    }

    private void shareStep(T t) {
        if (t.from == t.to) {
            t.state = 2;
            return;
        }
        S s = t.search;
        if (t.item == 0) {
            int fault = lookAt(s, t.line);
            if (fault != 0) {
                fail(t, fault);
                return;
            }
            t.sum = 0;
        }
        Object line = s.grid.lines[t.line];
        if (t.item < Array.getLength(line)) {
            t.sum += worth(line, t.item++);
            t.done++;
        }
        if (s.divisor == 0) {
            fail(t, 6);
            return;
        }
        long value = t.sum / s.divisor;
        if (value <= s.limit && t.item < Array.getLength(line)) return;
        if (value <= s.limit) better(s, value, t.line);
        t.over++;
        t.line++;
        t.item = 0;
        if (t.line == t.to) t.state = 2;
    }

    private void better(S s, long value, int line) {
        if (s.best != null && (s.best < value || s.best == value && s.line <= line)) return;
        s.best = value;
        s.line = line;
        s.limit = value;
    }

    private void again(T t) {
        S s = t.search;
        for (int i = t.from; i < t.to; i++) {
            if (lookAt(s, i) != 0 || s.divisor == 0) {
                t.lost++;
                continue;
            }
            // worths are not below 0: a line that is over ahead of its end has a value above the limit
            long sum = 0;
            for (int k = 0; k < Array.getLength(s.grid.lines[i]); k++) sum += worth(s.grid.lines[i], k);
            if (sum / s.divisor <= s.limit) better(s, sum / s.divisor, i);
        }
    }

    int interrupt(int task) {
        T t = of(tasks, task);
        if (t == null) return BAD;
        if (run != 1) return STATE;
        if (!t.open()) return 0;
        if (t.state == 1) {
            t.interrupt = true;
        } else {
            t.state = 6;
            looked();
        }
        return 1;
    }

    int close() {
        if (run != 1) return STATE;
        int many = 0;
        for (int i = threads - 1; i >= 0; i--) {
            for (T t : tasks) {
                if (t.state != 1 || t.thread != i) continue;
                t.state = 5;
                left(t);
                many++;
            }
        }
        for (T t : tasks) {
            if (t.state != 0) continue;
            t.state = 5;
            many++;
        }
        run = 3;
        return many;
    }

    int anew() {
        for (T t : tasks) {
            t.state = t.fault = t.steps = t.turns = t.done = t.lost = t.over = t.item = 0;
            t.thread = NONE;
            t.stop = t.interrupt = false;
            t.sum = 0;
            t.line = t.from;
        }
        for (S s : searches) {
            s.best = null;
            s.limit = s.told;
        }
        notes.clear();
        finished.clear();
        turns = passed = most = run = 0;
        taken = NONE;
        return tasks.size();
    }

    int taken() {
        return taken;
    }

    long answer(int task) {
        T t = of(tasks, task);
        return t != null && t.way() && t.state == 2 ? t.answer : NO;
    }

    int told(int task, int what) {
        T t = of(tasks, task);
        if (t == null || !in(what, 0, 8)) return BAD;
        int rank = t.sort == 1 ? 11 : t.sort == 3 ? 12 : t.sort == 4 ? 30 : 10;
        return new int[] {t.sort, t.state, t.fault, t.steps, t.turns, t.done, t.thread, t.lost, rank}[what];
    }

    long best(int search, int what) {
        S s = of(searches, search);
        if (s == null || !in(what, 0, 3)) return BAD;
        long lost = 0;
        for (T t : tasks) if (t.search == s) lost += t.lost;
        return new long[] {s.best == null ? NO : s.best, s.best == null ? NONE : s.line, s.limit, lost}[what];
    }

    int note(int i) {
        return Objects.requireNonNullElse(of(notes, i), NONE);
    }

    int finished(int thread) {
        return in(thread, 0, threads - 1) ? finished.getOrDefault(thread, 0) : BAD;
    }

    int count(int what) {
        if (!in(what, 0, 8)) return BAD;
        return new int[] {grids.size(), tasks.size(), searches.size(), turns, passed, memory - used(), most,
            notes.size(), run}[what];
    }

    /** What is found hangs on what there is to do alone. */
    int equal(int n) {
        return in(n, 1, 6) ? 1 : BAD;
    }
}
