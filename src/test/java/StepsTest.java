/** What "Terms" says of the steps of ways and shares, as told(), answer() and best() tell it. */
public final class StepsTest {
    private static final int NONE = GeoThreads.NONE;
    private static final long NO = GeoThreads.NO;
    private static final Due due = new Due();

    public static void main(String[] args) {
        plain();
        doubling();
        reader();
        careful();
        worths();
        share();
        limits();
        shareFaults();
        again();
        budgets();
        due.end();
    }

    private static GeoThreads ran(GeoThreads x) {
        x.run(1000);
        return x;
    }

    /** One way on one thread, to its end. */
    private static GeoThreads oneWay(boolean doubles, int parts, int fails, int budget) {
        GeoThreads x = new GeoThreads(1, 0);
        x.way(doubles, parts, 77, fails, 0, budget);
        x.run(1000);
        x.run(1000);
        return x;
    }

    private static void plain() {
        due.part("PLAIN");
        due.are("one part", Ask.told(oneWay(false, 1, 0, 1), 0), 0, 2, 0, 1, 2, 1, 0, 0, 10);
        due.are("five parts", Ask.told(oneWay(false, 5, 0, 5), 0), 0, 2, 0, 5, 6, 5, 0, 0, 10);
        due.are("fails at 3", Ask.told(oneWay(false, 5, 3, 5), 0), 0, 3, 7, 3, 4, 3, 0, 0, 10);
        due.are("fails at the last", Ask.told(oneWay(false, 5, 5, 9), 0), 0, 3, 7, 5, 6, 5, 0, 0, 10);
        due.are("fails above all", Ask.told(oneWay(false, 5, 6, 9), 0), 0, 2, 0, 5, 6, 5, 0, 0, 10);
        due.are("spent", Ask.told(oneWay(false, 5, 0, 4), 0), 0, 4, 0, 4, 5, 4, 0, 0, 10);
        due.are("spent ahead of the fault", Ask.told(oneWay(false, 5, 5, 4), 0), 0, 4, 0, 4, 5, 4, 0, 0, 10);
        due.are("fails with the budget", Ask.told(oneWay(false, 5, 4, 4), 0), 0, 3, 7, 4, 5, 4, 0, 0, 10);
        due.are("a thousand steps", Ask.told(oneWay(false, 100000, 0, 1000), 0), 0, 4, 0, 1000, 1001, 1000, 0, 0, 10);
        due.is("answer", oneWay(false, 5, 0, 5).answer(0), 77);
        due.is("no answer of a failed one", oneWay(false, 5, 1, 5).answer(0), NO);
        due.is("no answer of a spent one", oneWay(false, 5, 0, 4).answer(0), NO);
    }

    private static void doubling() {
        due.part("DOUBLING");
        due.are("one part", Ask.told(oneWay(true, 1, 0, 1), 0), 1, 2, 0, 1, 2, 1, 0, 0, 11);
        due.are("seven parts", Ask.told(oneWay(true, 7, 0, 3), 0), 1, 2, 0, 3, 4, 7, 0, 0, 11);
        due.are("eight parts", Ask.told(oneWay(true, 8, 0, 4), 0), 1, 2, 0, 4, 5, 8, 0, 0, 11);
        due.are("spent", Ask.told(oneWay(true, 8, 0, 3), 0), 1, 4, 0, 3, 4, 7, 0, 0, 11);
        due.are("fails amid a step", Ask.told(oneWay(true, 8, 5, 4), 0), 1, 3, 7, 3, 4, 5, 0, 0, 11);
        due.are("fails at a step's first", Ask.told(oneWay(true, 8, 4, 4), 0), 1, 3, 7, 3, 4, 4, 0, 0, 11);
        due.are("fails at a step's last", Ask.told(oneWay(true, 8, 3, 4), 0), 1, 3, 7, 2, 3, 3, 0, 0, 11);
        due.are("fails at the last", Ask.told(oneWay(true, 8, 8, 4), 0), 1, 3, 7, 4, 5, 8, 0, 0, 11);
        due.are("fails behind all", Ask.told(oneWay(true, 8, 9, 4), 0), 1, 2, 0, 4, 5, 8, 0, 0, 11);
        due.are("all parts", Ask.told(oneWay(true, 100000, 0, 17), 0), 1, 2, 0, 17, 18, 100000, 0, 0, 11);
    }

    /** Lines of 2, 0, 1 items, of ints: 5, 6; none; 7. */
    private static GeoThreads threeLines() {
        GeoThreads x = new GeoThreads(1, 0);
        x.grid(2, 3, 2);
        x.line(0, 1, 0);
        x.line(0, 2, 1);
        Ask.fill(x, 0, 0, 5, 6);
        Ask.fill(x, 0, 2, 7);
        return x;
    }

    private static void reader() {
        due.part("READER");
        GeoThreads x = threeLines();
        x.reader(false, 0, 2, 0, 4);
        due.are("three items, and the step that finds none", Ask.told(ran(x), 0), 2, 2, 0, 4, 5, 3, 0, 0, 10);
        due.is("the sum", x.answer(0), 18);
        x = threeLines();
        x.reader(false, 0, 2, 0, 3);
        due.are("spent", Ask.told(ran(x), 0), 2, 4, 0, 3, 4, 3, 0, 0, 10);
        due.is("no sum", x.answer(0), NO);
        x = threeLines();
        x.reader(false, 0, 1, 0, 9);
        due.are("CAST", Ask.told(ran(x), 0), 2, 3, 3, 1, 2, 0, 0, 0, 10);
        x = threeLines();
        x.line(0, 2, 13);
        x.reader(false, 0, 2, 0, 9);
        due.are("NULL behind an empty line", Ask.told(ran(x), 0), 2, 3, 1, 3, 4, 2, 0, 0, 10);
        x = new GeoThreads(1, 0);
        x.grid(5, 0, 0);
        x.reader(false, 0, 5, 0, 1);
        due.are("no lines", Ask.told(ran(x), 0), 2, 2, 0, 1, 2, 0, 0, 0, 10);
        due.is("sum of nothing", x.answer(0), 0);
        x = new GeoThreads(1, 0);
        x.grid(5, 0, 0);
        x.reader(false, 0, 4, 0, 1);
        due.are("no lines, CAST", Ask.told(ran(x), 0), 2, 3, 3, 1, 2, 0, 0, 0, 10);
    }

    private static void careful() {
        due.part("CAREFUL");
        GeoThreads x = threeLines();
        x.reader(true, 0, 2, 0, 4);
        due.are("as a READER", Ask.told(ran(x), 0), 3, 2, 0, 4, 5, 3, 0, 0, 12);
        x = threeLines();
        x.line(0, 0, 13);
        x.reader(true, 0, 2, 0, 9);
        due.are("a step for a lost line", Ask.told(ran(x), 0), 3, 2, 0, 3, 4, 1, 0, 1, 12);
        due.is("the sum", x.answer(0), 7);
        x = threeLines();
        x.line(0, 2, 13);
        x.reader(true, 0, 2, 0, 9);
        due.are("the last line is lost", Ask.told(ran(x), 0), 3, 2, 0, 4, 5, 2, 0, 1, 12);
        x = new GeoThreads(1, 0);
        x.grid(3, 3, 13);
        x.reader(true, 0, 3, 0, 9);
        x.reader(true, 0, 3, 0, 3);
        due.are("all are lost", Ask.told(ran(x), 0), 3, 2, 0, 4, 5, 0, 0, 3, 12);
        due.is("sum of nothing", x.answer(0), 0);
        x = new GeoThreads(1, 0);
        x.grid(3, 3, 13);
        x.reader(true, 0, 3, 0, 3);
        due.are("spent by lost ones", Ask.told(ran(x), 0), 3, 4, 0, 3, 4, 0, 0, 3, 12);
        x = threeLines();
        x.reader(true, 0, 0, 0, 9);
        due.are("CAST", Ask.told(ran(x), 0), 3, 3, 3, 1, 2, 0, 0, 0, 12);
    }

    private static void worths() {
        due.part("WORTH");
        long[] given = {-1, 0, 1, 999999, 1000000, 1000001, Long.MAX_VALUE, Long.MIN_VALUE};
        long[] want = {0, 0, 1, 999999, 1000000, 1000000, 1000000, 0};
        for (int i = 0; i < given.length; i++) {
            for (int kind = 3; kind < 6; kind++) {
                GeoThreads x = new GeoThreads(1, 0);
                x.grid(kind, 1, 1);
                x.put(0, 0, 0, given[i]);
                x.reader(false, 0, kind, 0, 9);
                due.is("worth of " + given[i] + " as kind " + kind, ran(x).answer(0), want[i]);
            }
        }
        GeoThreads x = new GeoThreads(1, 0);
        x.grid(3, 12, 12);
        for (int i = 0; i < 12; i++) for (int k = 0; k < 12; k++) x.put(0, i, k, Long.MAX_VALUE);
        x.reader(false, 0, 3, 0, 145);
        due.is("the greatest sum", ran(x).answer(0), 144000000);
        due.is("its steps", x.told(0, 3), 145);
    }

    private static void share() {
        due.part("SHARE");
        GeoThreads x = threeLines();
        x.search(0, 2, 1, 100);
        x.share(0, 0, 3, 0, 9);
        x.run(3);
        due.are("its first line", Ask.best(x, 0), 11, 0, 11, 0);
        x.run(1);
        due.are("its empty line", Ask.best(x, 0), 0, 1, 0, 0);
        due.is("its last step", x.run(1), 2);
        due.are("its best", Ask.best(x, 0), 0, 1, 0, 0);
        due.are("told of it", Ask.told(x, 0), 4, 2, 0, 4, 5, 3, 0, 0, 30);
        due.is("no answer of a share", x.answer(0), NO);
        due.is("nothing is taken", x.taken(), NONE);
        x = threeLines();
        x.search(0, 2, 1, 100);
        x.share(0, 2, 2, 0, 1);
        due.are("without lines", Ask.told(ran(x), 0), 4, 2, 0, 1, 2, 0, 0, 0, 30);
        due.are("no best", Ask.best(x, 0), NO, NONE, 100, 0);
        x = threeLines();
        x.search(0, 2, 1, 100);
        x.share(0, 20, 20, 0, 1);
        due.are("without lines, behind the grid", Ask.told(ran(x), 0), 4, 2, 0, 1, 2, 0, 0, 0, 30);
        x = threeLines();
        x.search(0, 2, 4, 100);
        x.share(0, 0, 1, 0, 1);
        due.are("cut off", Ask.best(ran(x), 0), 2, 0, 2, 0);
        x = threeLines();
        x.line(0, 1, 3);
        Ask.fill(x, 0, 1, 5, 6, 0);
        x.search(0, 2, 1, 100);
        x.share(0, 1, 2, 0, 1);
        x.share(0, 0, 1, 0, 1);
        due.are("equal, of a line further ahead", Ask.best(ran(x), 0), 11, 0, 11, 0);
        x = threeLines();
        x.line(0, 1, 3);
        Ask.fill(x, 0, 1, 5, 6, 0);
        x.search(0, 2, 1, 100);
        x.share(0, 0, 2, 0, 2);
        due.are("equal, of a line further behind", Ask.best(ran(x), 0), 11, 0, 11, 0);
    }

    private static void limits() {
        due.part("LIMIT");
        GeoThreads x = threeLines();
        x.search(0, 2, 1, 4);
        x.share(0, 0, 1, 0, 9);
        due.are("a line is over by its first item", Ask.told(ran(x), 0), 4, 2, 0, 1, 2, 1, 0, 0, 30);
        due.are("no best", Ask.best(x, 0), NO, NONE, 4, 0);
        x = threeLines();
        x.search(0, 2, 1, 10);
        x.share(0, 0, 1, 0, 9);
        due.are("over by its last item", Ask.told(ran(x), 0), 4, 2, 0, 2, 3, 2, 0, 0, 30);
        due.are("no best", Ask.best(x, 0), NO, NONE, 10, 0);
        x = threeLines();
        x.search(0, 2, 1, 11);
        x.share(0, 0, 1, 0, 9);
        due.are("what is no more than the limit", Ask.best(ran(x), 0), 11, 0, 11, 0);
        x = threeLines();
        x.search(0, 2, 1, 100);
        x.share(0, 2, 3, 0, 9);
        x.share(0, 0, 1, 0, 9);
        due.are("the best limits what is behind it", Ask.told(ran(x), 1), 4, 2, 0, 2, 3, 2, 0, 0, 30);
        due.are("best", Ask.best(x, 0), 7, 2, 7, 0);
        x = threeLines();
        x.search(0, 2, 1, 100);
        x.search(0, 2, 1, 100);
        x.share(0, 2, 3, 0, 9);
        x.share(1, 0, 1, 0, 9);
        ran(x);
        due.are("searches have limits of their own", Ask.best(x, 0), 7, 2, 7, 0);
        due.are("searches have limits of their own", Ask.best(x, 1), 11, 0, 11, 0);
    }

    private static void shareFaults() {
        due.part("FAULTS of shares");
        GeoThreads x = threeLines();
        x.search(0, 3, 0, 100);
        x.share(0, 0, 20, 0, 9);
        due.are("CAST first", Ask.told(ran(x), 0), 4, 3, 3, 1, 2, 0, 0, 20, 30);
        due.is("all are lost", x.best(0, 3), 20);
        x = threeLines();
        x.search(0, 2, 1, 100);
        x.share(0, 3, 5, 0, 9);
        due.are("INDEX", Ask.told(ran(x), 0), 4, 3, 2, 1, 2, 0, 0, 2, 30);
        x = threeLines();
        x.line(0, 0, 13);
        x.search(0, 2, 0, 100);
        x.share(0, 0, 3, 0, 9);
        due.are("NULL ahead of ZERO", Ask.told(ran(x), 0), 4, 3, 1, 1, 2, 0, 0, 3, 30);
        x = threeLines();
        x.search(0, 2, 0, 100);
        x.share(0, 0, 3, 0, 9);
        due.are("ZERO behind its first item", Ask.told(ran(x), 0), 4, 3, 6, 1, 2, 1, 0, 3, 30);
        x = threeLines();
        x.search(0, 2, 0, 100);
        x.share(0, 1, 2, 0, 9);
        due.are("ZERO without an item", Ask.told(ran(x), 0), 4, 3, 6, 1, 2, 0, 0, 1, 30);
        x = threeLines();
        x.line(0, 1, 13);
        x.search(0, 2, 1, 100);
        x.share(0, 0, 3, 0, 1);
        due.are("spent ahead of NULL", Ask.told(ran(x), 0), 4, 4, 0, 2, 3, 2, 0, 0, 30);
        x = threeLines();
        x.line(0, 1, 13);
        x.search(0, 2, 1, 100);
        x.share(0, 0, 3, 0, 2);
        due.are("NULL at the second line", Ask.told(ran(x), 0), 4, 3, 1, 3, 4, 2, 0, 1, 30);
    }

    private static void again() {
        due.part("AGAIN");
        GeoThreads x = threeLines();
        x.line(0, 0, 13);
        x.line(0, 1, 2);
        Ask.fill(x, 0, 1, 4, 4);
        x.search(0, 2, 1, 100);
        x.share(0, 0, 4, 0, 1);
        x.way(false, 3, 5, 0, 0, 9);
        x.run(2);
        due.are("failed, the run goes on", Ask.told(x, 0), 4, 3, 1, 1, 2, 0, 0, 0, 30);
        due.are("nothing is done again so far", Ask.best(x, 0), NO, NONE, 100, 0);
        due.is("over", x.run(9), 1);
        due.are("again: without steps, parts, budget", Ask.told(x, 0), 4, 3, 1, 1, 2, 0, 0, 2, 30);
        due.are("its lines but those lost", Ask.best(x, 0), 7, 2, 7, 2);
        due.are("no notes of it", Ask.notes(x), 1, 3, 101, 102);
        due.is("no turns of it", x.count(3), 6);
        due.is("finished once", x.finished(0), 2);
        x = threeLines();
        x.line(0, 0, 13);
        x.search(0, 2, 1, 100);
        x.share(0, 0, 2, 0, 9);
        x.share(0, 0, 3, 0, 9);
        due.is("lost of all shares", ran(x).best(0, 3), 2);
        x = threeLines();
        x.line(0, 0, 13);
        x.search(0, 2, 1, 100);
        x.share(0, 0, 3, 0, 9);
        x.way(false, 9, 5, 0, 0, 9);
        x.run(3);
        x.close();
        due.are("not by close()", Ask.best(x, 0), NO, NONE, 100, 0);
        due.is("none lost", x.told(0, 7), 0);
        x.anew();
        x.run(2);
        x.interrupt(1);
        due.are("not by interrupt()", Ask.best(x, 0), NO, NONE, 100, 0);
        due.is("over with the next run()", x.run(1), 2);
        due.are("by that", Ask.best(x, 0), 0, 1, 0, 1);
        x.anew();
        due.are("anew", Ask.best(x, 0), NO, NONE, 100, 0);
        due.is("none lost", x.told(0, 7), 0);
    }

    private static void budgets() {
        due.part("BUDGET of shares");
        GeoThreads x = threeLines();
        x.search(0, 2, 1, 100);
        x.share(0, 0, 3, 0, 2);
        due.are("two lines", Ask.told(ran(x), 0), 4, 4, 0, 3, 4, 2, 0, 0, 30);
        due.are("best of these", Ask.best(x, 0), 0, 1, 0, 0);
        x = threeLines();
        x.search(0, 2, 1, 100);
        x.share(0, 0, 3, 0, 3);
        due.are("proved with it", Ask.told(ran(x), 0), 4, 2, 0, 4, 5, 3, 0, 0, 30);
        x = threeLines();
        x.search(0, 2, 1, 4);
        x.share(0, 0, 3, 0, 1);
        due.are("lines over by the limit count", Ask.told(ran(x), 0), 4, 4, 0, 1, 2, 1, 0, 0, 30);
    }
}
