import java.util.function.Supplier;
import java.util.function.ToLongFunction;

/** Calls that change nothing: each is made on one of two objects that are alike, then the two are compared. */
final class Twins {
    private final Due due;
    private final Supplier<GeoThreads> maker;

    Twins(Due due, Supplier<GeoThreads> maker) {
        this.due = due;
        this.maker = maker;
    }

    /** The call's answer, and that all is as without it: at once, in the run that goes on, and in the one behind that. */
    void unchanged(String call, ToLongFunction<GeoThreads> asked, long want) {
        // new twins for each comparison: an object is good for 512 calls
        for (int runs = 0; runs < 3; runs++) {
            GeoThreads x = maker.get();
            GeoThreads y = maker.get();
            due.is(call, asked.applyAsLong(x), want);
            String behind = call + ", and " + runs + " runs behind it";
            if (runs > 0) due.is(behind + ", run()", x.run(1000), y.run(1000));
            if (runs > 1) due.is(behind + ", anew()", x.anew(), y.anew());
            if (runs > 1) due.is(behind + ", run() anew", x.run(1000), y.run(1000));
            if (runs == 0) due.are(behind + ", the grids", Ask.grids(x), Ask.grids(y));
            due.are(behind + ", what is asked", Ask.run(x), Ask.run(y));
        }
    }
}
