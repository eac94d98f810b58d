/** Promises 19 and 20, at each edge that the document names: way, stops. */
public final class WayEdgesTest {
    private static final Check CHECK = new Check("WayEdgesTest");
    private static final Edges EDGES = new Edges(CHECK);

    public static void main(String[] args) {
        mmOfAPlace();
        fiftyPlaces();
        noneStops();
        doesNotLieBelow();
        theFirst();
        atTheEnds();
        refusedPlaceIsNotOfTheWay();
        CHECK.finish();
    }

    private static void wayRefused(int mm) {
        EDGES.refused("way(" + mm + ")", Edges.NOTHING, x -> x.way(mm));
        EDGES.refused("way(" + mm + ")", Edges::something, x -> x.way(mm));
    }

    /** "mm, - 100,000 .. 100,000". */
    private static void mmOfAPlace() {
        EDGES.taken("the lowest", Edges.NOTHING, x -> x.way(-100000), 1);
        EDGES.taken("the lowest more", Edges::something, x -> x.way(-100000), 4);
        wayRefused(-100001);
        wayRefused(Integer.MIN_VALUE);
        EDGES.taken("the highest", Edges.NOTHING, x -> x.way(100000), 1);
        EDGES.taken("the highest more", Edges::something, x -> x.way(100000), 4);
        wayRefused(100001);
        wayRefused(Integer.MAX_VALUE);
    }

    private static Edges.Given falling(int many) {
        return x -> {
            for (int i = 1; i <= many; i++) {
                x.way(-i);
            }
        };
    }

    /** "BAD: .. there are 50". */
    private static void fiftyPlaces() {
        EDGES.taken("the 49th", falling(48), x -> x.way(-90), 49);
        EDGES.taken("the 50th", falling(49), x -> x.way(-90), 50);
        EDGES.refused("the 51st", falling(50), x -> x.way(-90));
        EDGES.refused("the 51st, rising", falling(50), x -> x.way(90));
        EDGES.taken("fifty", falling(50), x -> x.count(5), 50);
        EDGES.taken("fifty fall", falling(50), BasinSizes::stops, -1);
        EDGES.taken("the fiftieth stops", x -> {
            falling(49).to(x);
            x.way(-49);
        }, BasinSizes::stops, 49);
    }

    private static void stopsAt(String name, int due, int... way) {
        EDGES.leavesNoTrace("stops " + name, x -> {
            for (int mm : way) {
                x.way(mm);
            }
        }, BasinSizes::stops, due);
    }

    /** "BAD: there is none". */
    private static void noneStops() {
        stopsAt("of no way", -1);
        stopsAt("of one place", -1, 5);
        stopsAt("of one place below 0", -1, -5);
        stopsAt("of one place at 0", -1, 0);
        stopsAt("of two that fall", -1, 5, 4);
        stopsAt("of many that fall", -1, 5, 4, 0, -1, -9);
    }

    /** "that does not lie below the one before it": as high as it is enough. */
    private static void doesNotLieBelow() {
        stopsAt("a mm below", -1, 5, 4);
        stopsAt("as high", 1, 5, 5);
        stopsAt("a mm above", 1, 5, 6);
        stopsAt("a mm below at 0", -1, 0, -1);
        stopsAt("as high at 0", 1, 0, 0);
        stopsAt("a mm above at 0", 1, 0, 1);
        // Below the first place of all, but not below the one before it.
        stopsAt("behind a hole", 2, 9, 1, 2);
        stopsAt("as high as one before, not the last", -1, 9, 8, 7, 6);
    }

    /** "The first place". */
    private static void theFirst() {
        stopsAt("at the first of several", 1, 5, 5, 5, 5);
        stopsAt("at the first of two", 2, 5, 4, 4, 3, 3);
        stopsAt("at the last", 4, 5, 4, 3, 2, 2);
    }

    private static void atTheEnds() {
        stopsAt("from the highest to the lowest", -1, 100000, -100000);
        stopsAt("from the lowest to the highest", 1, -100000, 100000);
        stopsAt("at the lowest", 1, -100000, -100000);
        stopsAt("at the highest", 1, 100000, 100000);
    }

    /** A refused place is not the one before the next. */
    private static void refusedPlaceIsNotOfTheWay() {
        EDGES.taken("it falls past a refused place", x -> {
            x.way(5);
            x.way(-100001);
            x.way(4);
        }, BasinSizes::stops, -1);
        EDGES.taken("it stops past a refused place", x -> {
            x.way(5);
            x.way(100001);
            x.way(5);
        }, BasinSizes::stops, 1);
    }
}
