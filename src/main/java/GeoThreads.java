/**
 * Ways of proving race, and searches go by shares, on threads that step as a
 * schedule gives them turns, under one lock for memory and notes.
 */
public final class GeoThreads {
    public static final int BAD = -1, STATE = -2, FULL = -3, NONE = -9;
    public static final long NO = Long.MIN_VALUE;

    private static final int BYTES = 0, SHORTS = 1, INTS = 2, FLOATS = 4, DOUBLES = 5;

    private static final int NULL = 1, INDEX = 2, CAST = 3, STORE = 4, SIZE = 5, ZERO = 6, OWN = 7;

    private static final int PLAIN = 0, DOUBLING = 1, READER = 2, CAREFUL = 3, SHARE = 4;

    private static final int WAITS = 0, UNDER_WAY = 1, PROVED = 2, FAILED = 3, SPENT = 4,
        STOPPED = 5, INTERRUPTED = 6;

    private static final int NO_RUN = 0, OPEN = 1, OVER = 2, CLOSED = 3;

    private static final int MOST_THREADS = 6, MOST_MEMORY = 1000, MOST_GRIDS = 6, MOST_LINES = 12,
        MOST_ITEMS = 12, MISSING = 13, MOST_TASKS = 20, MOST_SEARCHES = 8, MOST_SCHEDULE = 400,
        MOST_PARTS = 100000, MOST_BUDGET = 1000, MOST_DIVISOR = 100, MOST_SHARE_LINES = 20,
        MOST_TURNS = 1000, MOST_WORTH = 1000000;

    /** Far above the turns that any run needs: 20 tasks of 1002 turns, on 6 threads. */
    private static final int TURNS_TO_THE_END = 1000000;

    private final int threads;
    private final int memory;
    private final Plan plan;
    private final Course course;
    /** These two serve equal() alone; they are made here once and used again. */
    private final Course alone;
    private final Course together;

    public GeoThreads(int threads, int memory) {
        this.threads = Math.max(1, Math.min(MOST_THREADS, threads));
        this.memory = Math.max(0, Math.min(MOST_MEMORY, memory));
        plan = new Plan();
        course = new Course(plan, this.memory, true);
        alone = new Course(plan, this.memory, false);
        together = new Course(plan, this.memory, false);
        course.begin(this.threads);
    }

    // ---- grids

    public int grid(int kind, int n, int m) {
        if (!isKind(kind) || n > MOST_LINES || m > MISSING) return BAD;
        if (course.status == OPEN) return STATE;
        if (plan.gridCount >= MOST_GRIDS) return FULL;
        if (n < 0 || m < 0) return refusal(SIZE);
        Grid made = new Grid(kind, n);
        for (int i = 0; i < n; i++) made.lines[i] = newLine(kind, m);
        plan.grids[plan.gridCount] = made;
        return plan.gridCount++;
    }

    public int line(int grid, int i, int m) {
        Grid at = plan.gridAt(grid);
        if (at == null || m > MISSING) return BAD;
        if (course.status == OPEN) return STATE;
        if (m < 0) return refusal(SIZE);
        if (!at.has(i)) return refusal(INDEX);
        at.lines[i] = newLine(at.kind, m);
        return m;
    }

    public int put(int grid, int i, int k, long v) {
        Grid at = plan.gridAt(grid);
        if (at == null) return BAD;
        if (course.status == OPEN) return STATE;
        int fault = at.faultOf(i);
        if (fault != 0) return refusal(fault);
        Line line = at.lines[i];
        if (!line.has(k)) return refusal(INDEX);
        line.numbers[k] = numberOf(line.kind, v);
        return 1;
    }

    public long item(int grid, int kind, int i, int k) {
        Grid at = plan.gridAt(grid);
        if (at == null || at.kind != kind || at.faultOf(i) != 0) return NO;
        Line line = at.lines[i];
        return line.has(k) ? line.numbers[k] : NO;
    }

    public int lay(int grid, int i, int from, int j) {
        Grid at = plan.gridAt(grid);
        Grid source = plan.gridAt(from);
        if (at == null || source == null) return BAD;
        if (course.status == OPEN) return STATE;
        if (!source.has(j) || !at.has(i)) return refusal(INDEX);
        Line laid = source.lines[j];
        if (laid != null && laid.kind != at.kind) return refusal(STORE);
        at.lines[i] = laid;
        return laid == null ? 0 : 1;
    }

    public int size(int grid, int i) {
        Grid at = plan.gridAt(grid);
        if (at == null) return BAD;
        if (i == -1) return at.lines.length;
        int fault = at.faultOf(i);
        return fault != 0 ? refusal(fault) : at.lines[i].numbers.length;
    }

    // ---- tasks

    public int way(boolean doubles, int parts, long answer, int fails, int need, int budget) {
        if (parts < 1 || parts > MOST_PARTS || answer == NO || fails < 0) return BAD;
        if (!isLoad(need, budget)) return BAD;
        int refused = refusalOfTask();
        if (refused != 0) return refused;
        return plan.addTask(new Way(doubles, parts, answer, fails, need, budget));
    }

    public int reader(boolean careful, int grid, int kind, int need, int budget) {
        Grid at = plan.gridAt(grid);
        if (at == null || !isKind(kind) || !isLoad(need, budget)) return BAD;
        int refused = refusalOfTask();
        if (refused != 0) return refused;
        return plan.addTask(new Reader(careful, at, kind, need, budget));
    }

    public int search(int grid, int kind, int divisor, long limit) {
        Grid at = plan.gridAt(grid);
        if (at == null || !isKind(kind)) return BAD;
        if (divisor < 0 || divisor > MOST_DIVISOR || limit < 0) return BAD;
        if (course.status == OPEN) return STATE;
        if (plan.searchCount >= MOST_SEARCHES) return FULL;
        plan.searches[plan.searchCount] = new Search(at, kind, divisor, limit);
        course.hunts[plan.searchCount].begin(limit);
        return plan.searchCount++;
    }

    public int share(int search, int from, int to, int need, int budget) {
        if (search < 0 || search >= plan.searchCount) return BAD;
        if (from < 0 || from > to || to > MOST_SHARE_LINES) return BAD;
        if (!isLoad(need, budget)) return BAD;
        int refused = refusalOfTask();
        if (refused != 0) return refused;
        Share made = new Share(plan.searches[search], search, from, to, need, budget);
        return plan.addTask(made);
    }

    public int turn(int thread) {
        if (!isThread(thread)) return BAD;
        if (course.status == OPEN) return STATE;
        if (plan.scheduled >= MOST_SCHEDULE) return FULL;
        plan.schedule[plan.scheduled] = thread;
        plan.scheduled++;
        return plan.scheduled;
    }

    // ---- runs

    public int run(int n) {
        if (n < 1 || n > MOST_TURNS) return BAD;
        if (course.status == OVER || course.status == CLOSED) return STATE;
        return course.goOn(n);
    }

    public int interrupt(int task) {
        if (!isTask(task)) return BAD;
        if (course.status != OPEN) return STATE;
        return course.breakOff(task);
    }

    public int close() {
        return course.status == OPEN ? course.stopAll() : STATE;
    }

    public int anew() {
        course.begin(threads);
        return plan.taskCount;
    }

    public int taken() {
        return course.taken;
    }

    public long answer(int task) {
        return isTask(task) ? course.answerOf(task) : NO;
    }

    public int told(int task, int what) {
        if (!isTask(task)) return BAD;
        Work work = course.works[task];
        switch (what) {
            case 0: return plan.tasks[task].sort;
            case 1: return work.state;
            case 2: return work.fault;
            case 3: return work.steps;
            case 4: return work.turns;
            case 5: return work.parts;
            case 6: return work.thread;
            case 7: return work.lost;
            case 8: return plan.tasks[task].rank();
            default: return BAD;
        }
    }

    public long best(int search, int what) {
        if (search < 0 || search >= plan.searchCount) return BAD;
        Hunt hunt = course.hunts[search];
        switch (what) {
            case 0: return hunt.line == NONE ? NO : hunt.value;
            case 1: return hunt.line;
            case 2: return hunt.limit;
            case 3: return course.lostOf(search);
            default: return BAD;
        }
    }

    public int note(int i) {
        return i >= 0 && i < course.noteCount ? course.notes[i] : NONE;
    }

    public int finished(int thread) {
        return isThread(thread) ? course.ended[thread] : BAD;
    }

    public int count(int what) {
        switch (what) {
            case 0: return plan.gridCount;
            case 1: return plan.taskCount;
            case 2: return plan.searchCount;
            case 3: return course.turns;
            case 4: return course.passed;
            case 5: return course.free;
            case 6: return course.most;
            case 7: return course.noteCount;
            case 8: return course.status;
            default: return BAD;
        }
    }

    public int equal(int threads) {
        if (threads < 1 || threads > MOST_THREADS) return BAD;
        alone.begin(1);
        alone.goOn(TURNS_TO_THE_END);
        together.begin(threads);
        together.goOn(TURNS_TO_THE_END);
        return together.foundAs(alone) ? 1 : 0;
    }

    // ---- what the calls share

    private static int refusal(int fault) {
        return -10 - fault;
    }

    private static boolean isKind(int kind) {
        return kind >= BYTES && kind <= DOUBLES;
    }

    private boolean isThread(int thread) {
        return thread >= 0 && thread < threads;
    }

    private boolean isTask(int task) {
        return task >= 0 && task < plan.taskCount;
    }

    private boolean isLoad(int need, int budget) {
        return need >= 0 && need <= memory && budget >= 1 && budget <= MOST_BUDGET;
    }

    /** STATE or FULL, if no task can be told now; else 0. */
    private int refusalOfTask() {
        if (course.status == OPEN) return STATE;
        return plan.taskCount >= MOST_TASKS ? FULL : 0;
    }

    private static Line newLine(int kind, int m) {
        return m >= 0 && m <= MOST_ITEMS ? new Line(kind, m) : null;
    }

    /** The NUMBER of an item that v was put into. */
    private static long numberOf(int kind, long v) {
        switch (kind) {
            case BYTES: return (byte) v;
            case SHORTS: return (short) v;
            case INTS: return (int) v;
            case FLOATS: return (long) (4 * ((float) v / 4));
            case DOUBLES: return (long) (4 * ((double) v / 4));
            default: return v;
        }
    }

    /** Items are kept by their NUMBERS, which are all that any call asks of them. */
    private static final class Line {
        final int kind;
        final long[] numbers;

        Line(int kind, int m) {
            this.kind = kind;
            numbers = new long[m];
        }

        boolean has(int k) {
            return k >= 0 && k < numbers.length;
        }

        long worth(int k) {
            if (!has(k) || numbers[k] <= 0) return 0;
            return numbers[k] < MOST_WORTH ? numbers[k] : MOST_WORTH;
        }
    }

    private static final class Grid {
        final int kind;
        final Line[] lines;

        Grid(int kind, int n) {
            this.kind = kind;
            lines = new Line[n];
        }

        boolean has(int i) {
            return i >= 0 && i < lines.length;
        }

        /** INDEX, NULL, or 0 where a line stands. */
        int faultOf(int i) {
            if (!has(i)) return INDEX;
            return lines[i] == null ? NULL : 0;
        }
    }

    private static final class Search {
        final Grid grid;
        final int kind;
        final int divisor;
        final long limit;

        Search(Grid grid, int kind, int divisor, long limit) {
            this.grid = grid;
            this.kind = kind;
            this.divisor = divisor;
            this.limit = limit;
        }
    }

    /** What was told; every course goes by it, and none changes it. */
    private static final class Plan {
        final Grid[] grids = new Grid[MOST_GRIDS];
        final Task[] tasks = new Task[MOST_TASKS];
        final Search[] searches = new Search[MOST_SEARCHES];
        final int[] schedule = new int[MOST_SCHEDULE];
        int gridCount;
        int taskCount;
        int searchCount;
        int scheduled;

        Grid gridAt(int number) {
            return number >= 0 && number < gridCount ? grids[number] : null;
        }

        int addTask(Task task) {
            tasks[taskCount] = task;
            return taskCount++;
        }
    }

    /** A task as it was told; how far it is in a course stands in a Work. */
    private abstract static class Task {
        final int sort;
        final int need;
        final int budget;

        Task(int sort, int need, int budget) {
            this.sort = sort;
            this.need = need;
            this.budget = budget;
        }

        boolean isWay() {
            return sort != SHARE;
        }

        abstract int rank();

        abstract void step(Work work, Hunt[] hunts);

        /** What a proved way found. */
        abstract long foundBy(Work work);

        /** How much of the budget is used. */
        int usedBy(Work work) {
            return work.steps;
        }
    }

    private static final class Way extends Task {
        final int parts;
        final long answer;
        final int fails;

        Way(boolean doubles, int parts, long answer, int fails, int need, int budget) {
            super(doubles ? DOUBLING : PLAIN, need, budget);
            this.parts = parts;
            this.answer = answer;
            this.fails = fails;
        }

        int rank() {
            return sort == DOUBLING ? 11 : 10;
        }

        void step(Work work, Hunt[] hunts) {
            // 1, 2, 4, .. parts a step: each step does one more than all the steps ahead of it did
            int many = sort == DOUBLING ? work.parts + 1 : 1;
            int reach = Math.min(parts, work.parts + many);
            if (fails > work.parts && fails <= reach) {
                work.parts = fails;
                work.fail(OWN);
                return;
            }
            work.parts = reach;
            if (reach == parts) work.state = PROVED;
        }

        long foundBy(Work work) {
            return answer;
        }
    }

    private static final class Reader extends Task {
        final Grid grid;
        final int kind;

        Reader(boolean careful, Grid grid, int kind, int need, int budget) {
            super(careful ? CAREFUL : READER, need, budget);
            this.grid = grid;
            this.kind = kind;
        }

        int rank() {
            return sort == CAREFUL ? 12 : 10;
        }

        void step(Work work, Hunt[] hunts) {
            if (grid.kind != kind) {
                work.fail(CAST);
                return;
            }
            for (int i = work.line; i < grid.lines.length; i++) {
                Line line = grid.lines[i];
                if (line == null) {
                    meetMissing(work);
                    return;
                }
                if (line.has(work.place)) {
                    work.read(line.worth(work.place));
                    return;
                }
                work.nextLine();
            }
            work.state = PROVED;
        }

        private void meetMissing(Work work) {
            if (sort == CAREFUL) {
                work.lost++;
                work.nextLine();
            } else {
                work.fail(NULL);
            }
        }

        long foundBy(Work work) {
            return work.total;
        }
    }

    private static final class Share extends Task {
        /** What a step in a line answers beside the faults, which are above 0. */
        static final int LINE_GOES_ON = 0, LINE_IS_OVER = -1;

        final Search search;
        final int number;
        final int from;
        final int to;

        Share(Search search, int number, int from, int to, int need, int budget) {
            super(SHARE, need, budget);
            this.search = search;
            this.number = number;
            this.from = from;
            this.to = to;
        }

        int rank() {
            return 30;
        }

        void step(Work work, Hunt[] hunts) {
            if (from >= to) {
                work.state = PROVED;
                return;
            }
            int what = stepInLine(work, hunts[number]);
            if (what > 0) work.fail(what);
            if (what != LINE_IS_OVER) return;
            work.nextLine();
            if (from + work.line >= to) work.state = PROVED;
        }

        /** Grids rest while a run is open, so looking at a line in each step finds what its first step found. */
        private int stepInLine(Work work, Hunt hunt) {
            int i = from + work.line;
            if (search.grid.kind != search.kind) return CAST;
            int fault = search.grid.faultOf(i);
            if (fault != 0) return fault;
            Line line = search.grid.lines[i];
            if (line.has(work.place)) work.read(line.worth(work.place));
            if (search.divisor == 0) return ZERO;
            long value = work.sum / search.divisor;
            if (value > hunt.limit) return LINE_IS_OVER;
            if (line.has(work.place)) return LINE_GOES_ON;
            hunt.offer(value, i);
            return LINE_IS_OVER;
        }

        /** All lines once more, past those with a fault: how many those are. */
        int doAgain(Work spare, Hunt hunt) {
            int lost = 0;
            spare.begin();
            for (int i = from; i < to; i++) {
                int what = LINE_GOES_ON;
                for (int k = 0; k <= MOST_ITEMS && what == LINE_GOES_ON; k++) what = stepInLine(spare, hunt);
                if (what > 0) lost++;
                spare.nextLine();
            }
            return lost;
        }

        long foundBy(Work work) {
            return NO;
        }

        int usedBy(Work work) {
            return work.line;
        }
    }

    /** How far a task is in a course. */
    private static final class Work {
        int state;
        int fault;
        int steps;
        int turns;
        int parts;
        int thread;
        int lost;
        /** Lines behind it, from the first one of the task on. */
        int line;
        /** Items of the line that were read, and the worth of these, and of all. */
        int place;
        long sum;
        long total;
        boolean toStop;
        boolean toInterrupt;

        void begin() {
            state = WAITS;
            fault = 0;
            steps = 0;
            turns = 0;
            parts = 0;
            thread = NONE;
            lost = 0;
            line = 0;
            place = 0;
            sum = 0;
            total = 0;
            toStop = false;
            toInterrupt = false;
        }

        boolean isLeft() {
            return state == WAITS || state == UNDER_WAY;
        }

        void fail(int by) {
            state = FAILED;
            fault = by;
        }

        void read(long worth) {
            sum += worth;
            total += worth;
            place++;
            parts++;
        }

        void nextLine() {
            line++;
            place = 0;
            sum = 0;
        }
    }

    /** How far a search is in a course: its best, and the limit that comes of it. */
    private static final class Hunt {
        long value;
        int line;
        long limit;

        void begin(long told) {
            value = 0;
            line = NONE;
            limit = told;
        }

        void offer(long offered, int of) {
            boolean better = line == NONE || value > offered || value == offered && line > of;
            if (!better) return;
            value = offered;
            line = of;
            limit = offered;
        }
    }

    /** One run of all tasks, from the beginning to its end. */
    private static final class Course {
        final Plan plan;
        final int memory;
        final boolean bySchedule;
        final Work[] works = new Work[MOST_TASKS];
        final Hunt[] hunts = new Hunt[MOST_SEARCHES];
        final Work spare = new Work();
        /** The task of each thread, or NONE. */
        final int[] held = new int[MOST_THREADS];
        final int[] ended = new int[MOST_THREADS];
        final int[] notes = new int[2 * MOST_TASKS];
        int noteCount;
        int threads = 1;
        int free;
        int most;
        int turns;
        int passed;
        int taken;
        int status;
        /** How many tasks wait or are under way, while the run is open. */
        int left;
        /** Nothing that waits fits into what is free; that holds until memory comes back. */
        boolean noneFits;

        Course(Plan plan, int memory, boolean bySchedule) {
            this.plan = plan;
            this.memory = memory;
            this.bySchedule = bySchedule;
            for (int i = 0; i < MOST_TASKS; i++) works[i] = new Work();
            for (int i = 0; i < MOST_SEARCHES; i++) hunts[i] = new Hunt();
        }

        void begin(int byThreads) {
            for (int i = 0; i < MOST_TASKS; i++) works[i].begin();
            for (int i = 0; i < plan.searchCount; i++) hunts[i].begin(plan.searches[i].limit);
            for (int i = 0; i < MOST_THREADS; i++) {
                held[i] = NONE;
                ended[i] = 0;
            }
            threads = byThreads;
            noteCount = 0;
            free = memory;
            most = 0;
            turns = 0;
            passed = 0;
            taken = NONE;
            status = NO_RUN;
            left = 0;
            noneFits = false;
        }

        int goOn(int n) {
            if (status == NO_RUN) {
                status = OPEN;
                left = plan.taskCount;
            }
            for (int i = 0; i < n && left > 0; i++) giveTurn(nextThread());
            if (left > 0) return 0;
            doFailedSharesAgain();
            status = OVER;
            return taken == NONE ? 2 : 1;
        }

        private int nextThread() {
            int scheduled = bySchedule ? plan.scheduled : 0;
            return turns < scheduled ? plan.schedule[turns] : (turns - scheduled) % threads;
        }

        private void giveTurn(int thread) {
            turns++;
            int before = left;
            if (held[thread] == NONE) takeNext(thread);
            else goOnWith(held[thread], thread);
            // only what ends can make a way the first one that is proved
            if (left < before) lookWhatIsTaken();
        }

        private void takeNext(int thread) {
            int task = leastThatFits();
            if (task == NONE) {
                passed++;
                return;
            }
            Work work = works[task];
            work.state = UNDER_WAY;
            work.thread = thread;
            work.turns++;
            held[thread] = task;
            free -= plan.tasks[task].need;
            most = Math.max(most, memory - free);
            write(task, thread, UNDER_WAY);
        }

        private int leastThatFits() {
            for (int i = 0; i < plan.taskCount && !noneFits; i++) {
                if (works[i].state == WAITS && plan.tasks[i].need <= free) return i;
            }
            noneFits = true;
            return NONE;
        }

        private void goOnWith(int number, int thread) {
            Task task = plan.tasks[number];
            Work work = works[number];
            work.turns++;
            if (work.toStop) {
                work.state = STOPPED;
            } else if (work.toInterrupt) {
                work.state = INTERRUPTED;
            } else {
                task.step(work, hunts);
                work.steps++;
                if (work.state == UNDER_WAY && task.usedBy(work) >= task.budget) work.state = SPENT;
            }
            if (work.state != UNDER_WAY) leave(number, thread);
        }

        /** What ends by a thread leaves it. */
        private void leave(int number, int thread) {
            held[thread] = NONE;
            ended[thread]++;
            left--;
            free += plan.tasks[number].need;
            noneFits = false;
            write(number, thread, works[number].state);
        }

        private void endWaiting(int number, int state) {
            works[number].state = state;
            left--;
        }

        private void write(int task, int thread, int state) {
            if (noteCount >= notes.length) return;
            notes[noteCount] = 100 * task + 10 * thread + state;
            noteCount++;
        }

        private void lookWhatIsTaken() {
            if (taken != NONE) return;
            for (int i = 0; i < plan.taskCount; i++) {
                if (!plan.tasks[i].isWay()) continue;
                if (works[i].isLeft()) return;
                if (works[i].state == PROVED) {
                    takeWay(i);
                    return;
                }
            }
        }

        private void takeWay(int number) {
            taken = number;
            for (int i = number + 1; i < plan.taskCount; i++) {
                if (!plan.tasks[i].isWay()) continue;
                if (works[i].state == WAITS) endWaiting(i, STOPPED);
                else if (works[i].state == UNDER_WAY) works[i].toStop = true;
            }
        }

        private void doFailedSharesAgain() {
            for (int i = 0; i < plan.taskCount; i++) {
                if (works[i].state == FAILED && plan.tasks[i] instanceof Share share) {
                    works[i].lost = share.doAgain(spare, hunts[share.number]);
                }
            }
        }

        int breakOff(int number) {
            Work work = works[number];
            if (!work.isLeft()) return 0;
            if (work.state == WAITS) {
                endWaiting(number, INTERRUPTED);
                lookWhatIsTaken();
            } else {
                work.toInterrupt = true;
            }
            return 1;
        }

        int stopAll() {
            int many = left;
            for (int i = threads - 1; i >= 0; i--) {
                int number = held[i];
                if (number == NONE) continue;
                works[number].state = STOPPED;
                leave(number, i);
            }
            for (int i = 0; i < plan.taskCount; i++) {
                if (works[i].state == WAITS) endWaiting(i, STOPPED);
            }
            status = CLOSED;
            return many;
        }

        long answerOf(int number) {
            if (number < 0 || number >= plan.taskCount || works[number].state != PROVED) return NO;
            return plan.tasks[number].foundBy(works[number]);
        }

        int lostOf(int search) {
            int lost = 0;
            for (int i = 0; i < plan.taskCount; i++) {
                if (plan.tasks[i] instanceof Share share && share.number == search) lost += works[i].lost;
            }
            return lost;
        }

        boolean foundAs(Course other) {
            if (taken != other.taken || answerOf(taken) != other.answerOf(taken)) return false;
            for (int i = 0; i < plan.taskCount; i++) {
                if (!endedAs(other, i)) return false;
            }
            for (int i = 0; i < plan.searchCount; i++) {
                if (hunts[i].line != other.hunts[i].line || hunts[i].value != other.hunts[i].value) return false;
            }
            return true;
        }

        private boolean endedAs(Course other, int number) {
            Work mine = works[number];
            Work others = other.works[number];
            if (!plan.tasks[number].isWay()) return (mine.state == SPENT) == (others.state == SPENT);
            if (taken != NONE && number > taken) return true;
            return mine.state == others.state && mine.fault == others.fault;
        }
    }
}
