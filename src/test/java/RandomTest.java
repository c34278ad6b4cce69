import java.util.Random;

/** Random runs of calls, each answer compared with the model's; a call that throws ends the test. */
public final class RandomTest {
    /** An object is good for 512 calls: going on asks 5 of it at most, asking 33. */
    private static final int OBJECTS = 30000, CALLS = 512, CALLS_TO_GO = 5, CALLS_TO_ASK = 33;
    private static final Due due = new Due();

    private final Random random;
    private final GeoThreads x;
    private final Model y;
    private final int threads;
    private final int memory;

    private RandomTest(long seed) {
        random = new Random(seed);
        threads = pick(0, 7);
        memory = random.nextInt(4) == 0 ? pick(-1, 1002) : pick(0, 12);
        x = new GeoThreads(threads, memory);
        y = new Model(threads, memory);
        due.part("seed " + seed);
    }

    public static void main(String[] args) {
        for (int seed = 0; seed < OBJECTS; seed++) {
            RandomTest test = new RandomTest(seed);
            int calls = 0;
            for (int round = 0; calls < CALLS; round++) calls += test.oneRound(CALLS - calls);
        }
        due.end();
    }

    private int pick(int low, int high) {
        return low + random.nextInt(high - low + 1);
    }

    private boolean rarely() {
        return random.nextInt(25) == 0;
    }

    /** A number of low .. high, now and then one that is near to it or far off. */
    private int near(int low, int high) {
        if (!rarely()) return high < low ? low : pick(low, high);
        int[] odd = {low - 1, high + 1, -1, Integer.MIN_VALUE, Integer.MAX_VALUE, -2};
        return odd[random.nextInt(odd.length)];
    }

    private long value() {
        switch (random.nextInt(8)) {
            case 0: return random.nextLong();
            case 1: return random.nextLong() >> random.nextInt(64);
            case 2: return Long.MAX_VALUE;
            case 3: return Long.MIN_VALUE;
            case 4: return pick(999990, 1000010);
            default: return pick(-3, 30);
        }
    }

    private int oneRound(int most) {
        int calls = 0;
        for (int i = pick(0, 60); i > 0 && calls < most; i--, calls++) tell();
        for (int i = pick(1, 30); i > 0 && calls + CALLS_TO_GO <= most; i--, calls += CALLS_TO_GO) go();
        for (int i = pick(1, 3); i > 0 && calls + CALLS_TO_ASK <= most; i--, calls += CALLS_TO_ASK) ask();
        return Math.max(1, calls);
    }

    private void tell() {
        int g = near(0, y.count(0) - 1);
        int kind = near(0, 5);
        int i = near(0, 11);
        int k = near(0, 11);
        int own = kindOf(g);
        if (random.nextInt(6) != 0) kind = own;
        if (i >= 0 && random.nextInt(3) != 0) i = i % Math.max(1, y.size(g, -1));
        switch (random.nextInt(12)) {
            case 0: {
                int n = near(0, 12);
                int m = near(0, 13);
                int made = random.nextInt(6);
                due.is("grid", x.grid(made, n, m), y.grid(made, n, m));
                break;
            }
            case 1: {
                int m = near(0, 13);
                due.is("line", x.line(g, i, m), y.line(g, i, m));
                break;
            }
            case 2: case 3: case 4: case 5: {
                long v = value();
                due.is("put", x.put(g, i, k, v), y.put(g, i, k, v));
                break;
            }
            case 6: {
                int f = near(0, y.count(0) - 1);
                due.is("lay", x.lay(g, i, f, k), y.lay(g, i, f, k));
                break;
            }
            case 7: {
                int thread = near(0, threads - 1);
                due.is("turn", x.turn(thread), y.turn(thread));
                break;
            }
            default: tellTask(g, kind);
        }
    }

    private int kindOf(int g) {
        for (int kind = 0; kind < 6; kind++) {
            for (int i = 0; i < y.size(g, -1); i++) if (y.item(g, kind, i, 0) != GeoThreads.NO) return kind;
        }
        return near(0, 5);
    }

    private void tellTask(int g, int kind) {
        int need = near(0, Math.min(1000, Math.max(0, memory)));
        int budget = random.nextInt(3) == 0 ? near(1, 5) : near(1, 1000);
        switch (random.nextInt(4)) {
            case 0: {
                boolean doubles = random.nextBoolean();
                int parts = doubles ? near(1, 100000) : near(1, 30);
                int fails = random.nextBoolean() ? 0 : near(1, random.nextBoolean() ? parts : 20);
                long answer = random.nextInt(30) == 0 ? GeoThreads.NO : value();
                due.is("way", x.way(doubles, parts, answer, fails, need, budget),
                    y.way(doubles, parts, answer, fails, need, budget));
                break;
            }
            case 1: {
                boolean careful = random.nextBoolean();
                due.is("reader", x.reader(careful, g, kind, need, budget), y.reader(careful, g, kind, need, budget));
                break;
            }
            case 2: {
                int divisor = random.nextBoolean() ? 1 : near(0, 100);
                long limit = rarely() ? value() : pick(0, 200000);
                due.is("search", x.search(g, kind, divisor, limit), y.search(g, kind, divisor, limit));
                break;
            }
            default: {
                int s = near(0, y.count(2) - 1);
                int from = near(0, 12);
                int to = near(Math.max(from, 0), 20);
                due.is("share", x.share(s, from, to, need, budget), y.share(s, from, to, need, budget));
            }
        }
    }

    private void go() {
        switch (random.nextInt(16)) {
            case 0: case 1: {
                int task = near(0, y.count(1) - 1);
                due.is("interrupt", x.interrupt(task), y.interrupt(task));
                break;
            }
            case 2:
                if (rarely()) due.is("close", x.close(), y.close());
                break;
            case 3:
                if (y.count(8) > 1 || rarely()) due.is("anew", x.anew(), y.anew());
                break;
            case 4:
                if (random.nextInt(3) == 0) {
                    int n = near(1, 1000);
                    due.is("run", x.run(n), y.run(n));
                }
                break;
            case 5:
                tell();
                break;
            case 6: {
                int n = near(1, 6);
                if (rarely()) due.is("equal", x.equal(n), y.equal(n));
                break;
            }
            default: {
                int n = near(1, 12);
                due.is("run", x.run(n), y.run(n));
            }
        }
        due.is("taken", x.taken(), y.taken());
        int[] counts = {3, 7, 8};
        for (int what : counts) due.is("count " + what, x.count(what), y.count(what));
    }

    private void ask() {
        int task = near(0, y.count(1) - 1);
        int search = near(0, y.count(2) - 1);
        int i = near(0, y.count(7));
        int thread = near(0, threads);
        int g = near(0, y.count(0) - 1);
        int line = near(-1, 12);
        int k = near(0, 11);
        int kind = random.nextBoolean() ? kindOf(g) : near(0, 5);
        due.is("answer", x.answer(task), y.answer(task));
        for (int what = -1; what < 10; what++) due.is("told " + what, x.told(task, what), y.told(task, what));
        for (int what = -1; what < 5; what++) due.is("best " + what, x.best(search, what), y.best(search, what));
        for (int what = -1; what < 10; what++) due.is("count " + what, x.count(what), y.count(what));
        due.is("note", x.note(i), y.note(i));
        due.is("finished", x.finished(thread), y.finished(thread));
        due.is("item", x.item(g, kind, line, k), y.item(g, kind, line, k));
        due.is("size", x.size(g, line), y.size(g, line));
    }
}
