/** The boundary cases of the steps of ways and shares: a test for each sentence of "Terms" 2 that names some. */
public final class EdgeStepsTest {
    private static final int NONE = GeoThreads.NONE;
    private static final long NO = GeoThreads.NO;
    private static final int NULL = 1, INDEX = 2, CAST = 3, ZERO = 6, OWN = 7;
    private static final int UNDER_WAY = 1, PROVED = 2, FAILED = 3, SPENT = 4;
    private static final int STATE_OF = 1, PARTS_OF = 5;
    private static final Due due = new Due();

    public static void main(String[] args) {
        plainLastPart();
        partThatFails();
        doublingLastStep();
        readerPassesEmptyLines();
        readerNoneLeft();
        readerFails();
        carefulGoesOn();
        shareInOrder();
        shareLookedAt();
        shareReads();
        shareAboveLimit();
        shareValue();
        shareBest();
        shareBehindLast();
        shareWithoutLines();
        shareFails();
        spentWays();
        spentShares();
        due.end();
    }

    /** What is told of task 0 behind each of so many turns. */
    private static long[] byTurn(GeoThreads x, int what, int turns) {
        long[] row = new long[turns];
        for (int i = 0; i < turns; i++) {
            x.run(1);
            row[i] = x.told(0, what);
        }
        return row;
    }

    private static GeoThreads oneWay(boolean doubles, int parts, int fails, int budget) {
        GeoThreads x = new GeoThreads(1, 0);
        x.way(doubles, parts, 77, fails, 0, budget);
        return x;
    }

    /** A grid of ints with these lines; null: MISSING. */
    private static GeoThreads withLines(long[]... lines) {
        GeoThreads x = new GeoThreads(1, 0);
        x.grid(2, lines.length, 0);
        for (int i = 0; i < lines.length; i++) {
            x.line(0, i, lines[i] == null ? 13 : lines[i].length);
            if (lines[i] != null) Ask.fill(x, 0, i, lines[i]);
        }
        return x;
    }

    private static long[] line(long... numbers) {
        return numbers;
    }

    private static GeoThreads withReader(boolean careful, int budget, long[]... lines) {
        GeoThreads x = withLines(lines);
        x.reader(careful, 0, 2, 0, budget);
        return x;
    }

    /** One share of all the lines. */
    private static GeoThreads withShare(int divisor, long limit, long[]... lines) {
        GeoThreads x = withLines(lines);
        x.search(0, 2, divisor, limit);
        x.share(0, 0, lines.length, 0, 1000);
        return x;
    }

    private static void plainLastPart() {
        due.sentence("each STEP does one of its PARTS; with the last one it is PROVED, and its ANSWER there.");
        GeoThreads x = oneWay(false, 3, 0, 9);
        due.are("states", byTurn(x, STATE_OF, 3), UNDER_WAY, UNDER_WAY, UNDER_WAY);
        due.is("no answer ahead of the last part", x.answer(0), NO);
        due.is("two parts", x.told(0, 5), 2);
        due.are("with the last part", byTurn(x, STATE_OF, 1), PROVED);
        due.is("its answer", x.answer(0), 77);
        due.are("told", Ask.told(x, 0), 0, PROVED, 0, 3, 4, 3, 0, 0, 10);
        GeoThreads y = oneWay(false, 1, 0, 1);
        due.are("one part", byTurn(y, STATE_OF, 2), UNDER_WAY, PROVED);
        due.is("its answer", y.answer(0), 77);
    }

    private static void partThatFails() {
        due.sentence("If a PART is told to fail, it FAILS by OWN as that is done (it counts as done).");
        for (int fails = 1; fails <= 4; fails++) {
            GeoThreads x = oneWay(false, 4, fails, 9);
            x.run(1000);
            due.are("part " + fails + " of 4", Ask.told(x, 0), 0, FAILED, OWN, fails, fails + 1, fails, 0, 0, 10);
            due.is("no answer", x.answer(0), NO);
            due.is("nothing is taken", x.taken(), NONE);
        }
    }

    private static void doublingLastStep() {
        due.sentence("but its STEPS do 1, 2, 4, .. PARTS (as many as there are still, one after the other).");
        due.are("14 parts", byTurn(oneWay(true, 14, 0, 9), PARTS_OF, 5), 0, 1, 3, 7, 14);
        due.are("15 parts", byTurn(oneWay(true, 15, 0, 9), PARTS_OF, 5), 0, 1, 3, 7, 15);
        due.are("15 parts", byTurn(oneWay(true, 15, 0, 9), STATE_OF, 5), 1, 1, 1, 1, PROVED);
        due.are("16 parts", byTurn(oneWay(true, 16, 0, 9), PARTS_OF, 6), 0, 1, 3, 7, 15, 16);
        due.are("16 parts", byTurn(oneWay(true, 16, 0, 9), STATE_OF, 6), 1, 1, 1, 1, 1, PROVED);
        due.are("2 parts", byTurn(oneWay(true, 2, 0, 9), PARTS_OF, 3), 0, 1, 2);
        due.are("1 part", byTurn(oneWay(true, 1, 0, 9), PARTS_OF, 2), 0, 1);
        int[] steps = {0, 1, 2, 2, 3, 3, 3, 3, 4, 4, 4};
        for (int fails = 1; fails <= 10; fails++) {
            GeoThreads x = oneWay(true, 10, fails, 9);
            x.run(1000);
            due.are("part " + fails + " of 10 fails, none behind it is done", Ask.told(x, 0),
                1, FAILED, OWN, steps[fails], steps[fails] + 1, fails, 0, 0, 11);
        }
        due.are("the most parts", byTurn(oneWay(true, 100000, 0, 17), STATE_OF, 18),
            1, 1, 1, 1, 1, 1, 1, 1, 1, 1, 1, 1, 1, 1, 1, 1, 1, PROVED);
    }

    private static void readerPassesEmptyLines() {
        due.sentence("a STEP passes LINES without ITEMS, and reads the next ITEM, LINE by LINE: a PART");
        for (int careful = 0; careful < 2; careful++) {
            GeoThreads x = withReader(careful == 1, 9, line(), line(), line(3), line(), line(4, 5), line());
            due.are("a part for each step", byTurn(x, PARTS_OF, 4), 0, 1, 2, 3);
            due.is("not yet PROVED", x.told(0, 1), UNDER_WAY);
            due.is("over", x.run(1), 1);
            due.is("no step for an empty line", x.told(0, 3), 4);
            due.is("the sum", x.answer(0), 12);
        }
    }

    private static void readerNoneLeft() {
        due.sentence("if there is none left, it is PROVED: its ANSWER is the sum of the WORTHS of all that it read.");
        for (int careful = 0; careful < 2; careful++) {
            int rank = careful == 1 ? 12 : 10;
            GeoThreads x = withReader(careful == 1, 1);
            x.run(9);
            due.are("no lines", Ask.told(x, 0), 2 + careful, PROVED, 0, 1, 2, 0, 0, 0, rank);
            due.is("its sum", x.answer(0), 0);
            x = withReader(careful == 1, 1, line(), line(), line());
            x.run(9);
            due.are("lines without items", Ask.told(x, 0), 2 + careful, PROVED, 0, 1, 2, 0, 0, 0, rank);
            due.is("their sum", x.answer(0), 0);
            x = withReader(careful == 1, 9, line(-5, 0), line(1000001, 7));
            x.run(9);
            due.is("worths, not numbers", x.answer(0), 1000007);
            x = withReader(careful == 1, 9, line(6));
            x.run(2);
            due.is("no answer while it is under way", x.answer(0), NO);
            x.run(1);
            due.is("its answer", x.answer(0), 6);
        }
    }

    private static void readerFails() {
        due.sentence("It FAILS by CAST at its first STEP, by NULL where it comes to a LINE that is MISSING.");
        for (int careful = 0; careful < 2; careful++) {
            int rank = careful == 1 ? 12 : 10;
            for (int kind = 0; kind < 6; kind++) {
                GeoThreads x = withLines(null, line(1));
                x.reader(careful == 1, 0, kind, 0, 1);
                x.run(1);
                due.is("as it is taken", x.told(0, 1), UNDER_WAY);
                if (kind == 2) continue;
                x.run(1);
                due.are("CAST, ahead of NULL", Ask.told(x, 0), 2 + careful, FAILED, CAST, 1, 2, 0, 0, 0, rank);
            }
            GeoThreads y = withLines();
            y.reader(careful == 1, 0, 3, 0, 1);
            y.run(9);
            due.are("CAST without lines", Ask.told(y, 0), 2 + careful, FAILED, CAST, 1, 2, 0, 0, 0, rank);
        }
        GeoThreads x = withReader(false, 9, null, line(1));
        x.run(9);
        due.are("the first line", Ask.told(x, 0), 2, FAILED, NULL, 1, 2, 0, 0, 0, 10);
        x = withReader(false, 9, line(), line(), null);
        x.run(9);
        due.are("behind empty ones", Ask.told(x, 0), 2, FAILED, NULL, 1, 2, 0, 0, 0, 10);
        x = withReader(false, 9, line(1, 2), null);
        due.are("not ahead of it", byTurn(x, STATE_OF, 4), UNDER_WAY, UNDER_WAY, UNDER_WAY, FAILED);
        due.are("the last line", Ask.told(x, 0), 2, FAILED, NULL, 3, 4, 2, 0, 0, 10);
        due.is("no answer", x.answer(0), NO);
    }

    private static void carefulGoesOn() {
        due.sentence("a READER that goes on behind a MISSING LINE: the STEP that comes to it is spent by that, and the LINE is LOST.");
        GeoThreads x = withReader(true, 9, null, line(4), null, null, line(), line(5), null);
        due.are("parts", byTurn(x, PARTS_OF, 7), 0, 0, 1, 1, 1, 2, 2);
        due.is("lost so far", x.told(0, 7), 4);
        due.is("under way", x.told(0, 1), UNDER_WAY);
        due.is("over", x.run(1), 1);
        due.are("told", Ask.told(x, 0), 3, PROVED, 0, 7, 8, 2, 0, 4, 12);
        due.is("the sum of what is there", x.answer(0), 9);
        x = withReader(true, 9, line(), null);
        x.run(9);
        due.are("behind an empty line", Ask.told(x, 0), 3, PROVED, 0, 2, 3, 0, 0, 1, 12);
        x = withReader(true, 13, null, null, null, null, null, null, null, null, null, null, null, null);
        x.run(99);
        due.are("twelve of them", Ask.told(x, 0), 3, PROVED, 0, 13, 14, 0, 0, 12, 12);
        due.is("the sum of nothing", x.answer(0), 0);
        x = withReader(true, 12, null, null, null, null, null, null, null, null, null, null, null, null);
        x.run(99);
        due.are("the budget is of steps, these too", Ask.told(x, 0), 3, SPENT, 0, 12, 13, 0, 0, 12, 12);
    }

    private static void shareInOrder() {
        due.sentence("LINES from one on up to ahead of another one, in order.");
        GeoThreads x = withLines(line(1), line(9), line(8), line(7), line(2));
        x.search(0, 2, 1, 100);
        x.share(0, 1, 4, 0, 9);
        x.run(2);
        due.are("line 1 first", Ask.best(x, 0), 9, 1, 9, 0);
        x.run(1);
        due.are("then line 2", Ask.best(x, 0), 8, 2, 8, 0);
        due.is("line 3 is the last", x.run(1), 2);
        due.are("best", Ask.best(x, 0), 7, 3, 7, 0);
    }

    private static void shareLookedAt() {
        due.sentence("if a LINE begins: it is looked at (CAST, INDEX: there is none, NULL)");
        GeoThreads x = withLines(line(1), null);
        x.search(0, 2, 0, 5);
        x.search(0, 3, 0, 5);
        x.share(0, 1, 2, 0, 9);
        x.share(0, 2, 3, 0, 9);
        x.share(1, 1, 2, 0, 9);
        x.share(1, 2, 3, 0, 9);
        x.share(1, 19, 20, 0, 9);
        x.share(0, 19, 20, 0, 9);
        x.run(1000);
        due.are("NULL, ahead of ZERO", Ask.told(x, 0), 4, FAILED, NULL, 1, 2, 0, 0, 1, 30);
        due.are("INDEX, ahead of ZERO", Ask.told(x, 1), 4, FAILED, INDEX, 1, 2, 0, 0, 1, 30);
        due.are("CAST ahead of NULL", Ask.told(x, 2), 4, FAILED, CAST, 1, 2, 0, 0, 1, 30);
        due.are("CAST ahead of INDEX", Ask.told(x, 3), 4, FAILED, CAST, 1, 2, 0, 0, 1, 30);
        due.are("CAST of the last line that can be told", Ask.told(x, 4), 4, FAILED, CAST, 1, 2, 0, 0, 1, 30);
        due.are("INDEX of it", Ask.told(x, 5), 4, FAILED, INDEX, 1, 2, 0, 0, 1, 30);
        x = withShare(1, 5, line(1, 1), null);
        due.are("only as it begins", byTurn(x, STATE_OF, 4), UNDER_WAY, UNDER_WAY, UNDER_WAY, FAILED);
        x = withLines();
        x.search(0, 2, 1, 5);
        x.share(0, 0, 1, 0, 9);
        x.run(9);
        due.are("INDEX of a grid without lines", Ask.told(x, 0), 4, FAILED, INDEX, 1, 2, 0, 0, 1, 30);
    }

    private static void shareReads() {
        due.sentence("if the LINE has an ITEM left, that is read: a PART, and its WORTH comes to the LINE's SUM (0 at first).");
        GeoThreads x = withShare(1, 100, line(3, -4, 5), line(), line(1000001));
        due.are("parts", byTurn(x, PARTS_OF, 6), 0, 1, 2, 3, 3, 4);
        due.is("steps", x.told(0, 3), 5);
        x = withShare(1, 2000000, line(1000001, 3, -9));
        x.run(9);
        due.are("worths", Ask.best(x, 0), 1000003, 0, 1000003, 0);
        x = withShare(1, 100, line(9), line(4), line(3));
        x.run(9);
        due.are("each line has a sum of its own", Ask.best(x, 0), 3, 2, 3, 0);
        x = withShare(1, 6, line(7, 1), line(5, 1));
        x.run(9);
        due.are("so it has behind one that was over ahead of its end", Ask.best(x, 0), 6, 1, 6, 0);
        x = withShare(1, 20000000, line(9999999, 9999999, 9999999, 9999999, 9999999, 9999999, 9999999, 9999999,
            9999999, 9999999, 9999999, 9999999));
        x.run(99);
        due.are("the greatest sum", Ask.best(x, 0), 12000000, 0, 12000000, 0);
    }

    private static void shareAboveLimit() {
        due.sentence("Then SUM / DIVISOR (cut off; ZERO): if it is above the LIMIT, the LINE is over.");
        GeoThreads x = withShare(1, 4, line(5, 0));
        x.run(9);
        due.are("above by the first item", Ask.told(x, 0), 4, PROVED, 0, 1, 2, 1, 0, 0, 30);
        due.are("no best", Ask.best(x, 0), NO, NONE, 4, 0);
        x = withShare(1, 5, line(5, 0));
        x.run(9);
        due.are("equal: not above", Ask.told(x, 0), 4, PROVED, 0, 2, 3, 2, 0, 0, 30);
        due.are("its value", Ask.best(x, 0), 5, 0, 5, 0);
        x = withShare(3, 1, line(5));
        x.run(9);
        due.are("5 / 3 is cut off to 1", Ask.best(x, 0), 1, 0, 1, 0);
        x = withShare(3, 1, line(6));
        x.run(9);
        due.are("6 / 3 is above 1", Ask.best(x, 0), NO, NONE, 1, 0);
        x = withShare(100, 0, line(99));
        x.run(9);
        due.are("99 / 100 is cut off to 0", Ask.best(x, 0), 0, 0, 0, 0);
        x = withShare(100, 0, line(100));
        x.run(9);
        due.are("100 / 100 is above 0", Ask.best(x, 0), NO, NONE, 0, 0);
        x = withShare(1, 0, line(0, 0, 1));
        x.run(9);
        due.are("above by the last item", Ask.told(x, 0), 4, PROVED, 0, 3, 4, 3, 0, 0, 30);
        due.are("no best", Ask.best(x, 0), NO, NONE, 0, 0);
        x = withShare(0, 5, line(1), line());
        x.run(9);
        due.are("ZERO behind a part", Ask.told(x, 0), 4, FAILED, ZERO, 1, 2, 1, 0, 2, 30);
        x = withShare(0, 5, line(), line(1));
        x.run(9);
        due.are("ZERO of a line without items", Ask.told(x, 0), 4, FAILED, ZERO, 1, 2, 0, 0, 2, 30);
    }

    private static void shareValue() {
        due.sentence("Else, if no ITEM is left: it is the LINE's VALUE, and the LINE is over");
        GeoThreads x = withShare(1, 0, line());
        x.run(9);
        due.are("a line without items", Ask.told(x, 0), 4, PROVED, 0, 1, 2, 0, 0, 0, 30);
        due.are("its value", Ask.best(x, 0), 0, 0, 0, 0);
        x = withShare(1, 9, line(4, 5));
        x.run(2);
        due.are("none while an item is left", Ask.best(x, 0), NO, NONE, 9, 0);
        due.is("by the step of the last item", x.run(1), 2);
        due.are("its value", Ask.best(x, 0), 9, 0, 9, 0);
    }

    /** Two shares of a line each, in this order, on one thread. */
    private static GeoThreads twoLines(int first, int second, long[]... lines) {
        GeoThreads x = withLines(lines);
        x.search(0, 2, 2, 100);
        x.share(0, first, first + 1, 0, 9);
        x.share(0, second, second + 1, 0, 9);
        return x;
    }

    private static void shareBest() {
        due.sentence("it is the SEARCH's BEST, if there was none, or that one's VALUE is above it, or equal and of a LINE that is further behind; the LIMIT is the BEST's VALUE then.");
        GeoThreads x = twoLines(0, 1, line(8), line(6));
        x.run(2);
        due.are("there was none", Ask.best(x, 0), 4, 0, 4, 0);
        x.run(9);
        due.are("that one's is above it", Ask.best(x, 0), 3, 1, 3, 0);
        x = twoLines(1, 0, line(7), line(6));
        x.run(9);
        due.are("equal, further behind", Ask.best(x, 0), 3, 0, 3, 0);
        x = twoLines(0, 1, line(7), line(6));
        x.run(9);
        due.are("equal, further ahead", Ask.best(x, 0), 3, 0, 3, 0);
        x = twoLines(1, 0, line(8), line(6));
        x.run(9);
        due.are("that one's is below it", Ask.best(x, 0), 3, 1, 3, 0);
        x = twoLines(0, 1, line(0), line(0));
        x.run(9);
        due.are("a best of 0", Ask.best(x, 0), 0, 0, 0, 0);
        x = twoLines(1, 0, line(1), line(0));
        x.run(9);
        due.are("a best of 0, equal", Ask.best(x, 0), 0, 0, 0, 0);
        x = twoLines(0, 0, line(4));
        x.run(9);
        due.are("the same line twice", Ask.best(x, 0), 2, 0, 2, 0);
        x = twoLines(0, 1, line(4), line(6, 0, 0));
        x.run(9);
        due.are("the limit ends a line of the other share", Ask.told(x, 1), 4, PROVED, 0, 1, 2, 1, 0, 0, 30);
    }

    private static void shareBehindLast() {
        due.sentence("Behind the last LINE the SHARE is PROVED by that STEP");
        due.are("a value's step", byTurn(withShare(1, 9, line(1), line(2)), STATE_OF, 3), UNDER_WAY, UNDER_WAY, PROVED);
        due.are("a step above the limit", byTurn(withShare(1, 0, line(1), line(2, 2)), STATE_OF, 3),
            UNDER_WAY, UNDER_WAY, PROVED);
        due.are("an empty line's step", byTurn(withShare(1, 9, line(1), line()), STATE_OF, 3), UNDER_WAY, UNDER_WAY, PROVED);
        GeoThreads x = withLines(line(1), null);
        x.search(0, 2, 1, 9);
        x.share(0, 0, 1, 0, 9);
        due.are("what is behind the share is not looked at", byTurn(x, STATE_OF, 2), UNDER_WAY, PROVED);
    }

    private static void shareWithoutLines() {
        due.sentence("one without LINES by its first one, which does nothing else.");
        GeoThreads x = withLines(null, line(1));
        x.search(0, 3, 0, 5);
        for (int i = 0; i <= 20; i += 10) x.share(0, i, i, 0, 1);
        x.run(1);
        due.is("not as it is taken", x.told(0, 1), UNDER_WAY);
        due.is("over", x.run(1000), 2);
        for (int i = 0; i < 3; i++) due.are("no CAST, no ZERO", Ask.told(x, i), 4, PROVED, 0, 1, 2, 0, 0, 0, 30);
        due.are("no best", Ask.best(x, 0), NO, NONE, 5, 0);
    }

    private static void shareFails() {
        due.sentence("A FAULT: it FAILS.");
        GeoThreads x = withShare(1, 9, line(3), null, line(2));
        x.way(false, 1, 1, 0, 0, 1);
        x.run(3);
        due.are("at its second line", Ask.told(x, 0), 4, FAILED, NULL, 2, 3, 1, 0, 0, 30);
        due.are("what it found stays", Ask.best(x, 0), 3, 0, 3, 0);
        due.are("notes", Ask.notes(x), 1, 3);
        due.is("a share's fault takes nothing", x.taken(), NONE);
    }

    private static void spentWays() {
        due.sentence("A TASK that has not ENDED by its STEP, and has used its BUDGET with it (a WAY: of STEPS;");
        GeoThreads x = oneWay(false, 4, 0, 4);
        x.run(9);
        due.is("PROVED with its budget", x.told(0, 1), PROVED);
        x = oneWay(false, 5, 0, 4);
        due.are("one part too many", byTurn(x, STATE_OF, 5), 1, 1, 1, 1, SPENT);
        due.are("told", Ask.told(x, 0), 0, SPENT, 0, 4, 5, 4, 0, 0, 10);
        due.is("no answer", x.answer(0), NO);
        due.is("nothing is taken", x.taken(), NONE);
        x = oneWay(false, 5, 4, 4);
        x.run(9);
        due.is("FAILED with its budget", x.told(0, 1), FAILED);
        x = oneWay(true, 3, 0, 2);
        x.run(9);
        due.is("doubling, PROVED with it", x.told(0, 1), PROVED);
        x = oneWay(true, 4, 0, 2);
        x.run(9);
        due.are("doubling, one part too many", Ask.told(x, 0), 1, SPENT, 0, 2, 3, 3, 0, 0, 11);
        x = oneWay(false, 2, 0, 1);
        x.run(9);
        due.are("a budget of 1", Ask.told(x, 0), 0, SPENT, 0, 1, 2, 1, 0, 0, 10);
        x = withReader(false, 3, line(1, 2));
        x.run(9);
        due.is("a reader, PROVED with it", x.told(0, 1), PROVED);
        x = withReader(false, 2, line(1, 2));
        x.run(9);
        due.are("a reader ahead of the step that finds none", Ask.told(x, 0), 2, SPENT, 0, 2, 3, 2, 0, 0, 10);
        x = withReader(false, 1, line(1), null);
        x.run(9);
        due.is("a reader ahead of NULL", x.told(0, 1), SPENT);
    }

    private static GeoThreads ranShare(int divisor, long limit, int budget, long[]... lines) {
        GeoThreads x = withLines(lines);
        x.search(0, 2, divisor, limit);
        x.share(0, 0, lines.length, 0, budget);
        x.run(1000);
        return x;
    }

    private static void spentShares() {
        due.sentence("a SHARE: of LINES that are over), is SPENT.");
        GeoThreads x = ranShare(1, 9, 2, line(1, 2), line(1, 1));
        due.are("PROVED with its budget", Ask.told(x, 0), 4, PROVED, 0, 4, 5, 4, 0, 0, 30);
        x = ranShare(1, 9, 2, line(1, 2), line(1, 1), line());
        due.are("one line too many", Ask.told(x, 0), 4, SPENT, 0, 4, 5, 4, 0, 0, 30);
        due.are("best of the others", Ask.best(x, 0), 2, 1, 2, 0);
        x = ranShare(1, 0, 2, line(1, 2), line(1, 1), line());
        due.are("lines above the limit are over, too", Ask.told(x, 0), 4, SPENT, 0, 2, 3, 2, 0, 0, 30);
        x = ranShare(1, 9, 1, line(1, 2, 3, 0, 0, 0, 0, 0));
        due.are("not of steps", Ask.told(x, 0), 4, PROVED, 0, 8, 9, 8, 0, 0, 30);
        x = ranShare(1, 9, 1, line(1), null);
        due.are("ahead of a fault, and not done again", Ask.told(x, 0), 4, SPENT, 0, 1, 2, 1, 0, 0, 30);
        x = ranShare(1, 9, 1, null, line(1));
        due.are("a line with a fault is not over", Ask.told(x, 0), 4, FAILED, NULL, 1, 2, 0, 0, 1, 30);
    }
}
