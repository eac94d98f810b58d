/** Promises 19 and 20: way, stops. */
public final class WayTest {
    private static final Check CHECK = new Check("WayTest");

    public static void main(String[] args) {
        ranges();
        fiftyPlaces();
        stops();
        CHECK.finish();
    }

    private static void ranges() {
        BasinSizes x = new BasinSizes();
        for (int mm : new int[] {-100001, 100001, Integer.MIN_VALUE, Integer.MAX_VALUE}) {
            CHECK.due("way " + mm, x.way(mm), -1);
        }
        CHECK.due("none was taken", x.count(5), 0);
        CHECK.due("highest", x.way(100000), 1);
        CHECK.due("lowest", x.way(-100000), 2);
        CHECK.due("falls", x.stops(), -1);
    }

    private static void fiftyPlaces() {
        BasinSizes x = new BasinSizes();
        for (int i = 1; i <= 49; i++) {
            CHECK.due("way " + i, x.way(-i), i);
        }
        CHECK.due("falls", x.stops(), -1);
        CHECK.due("the fiftieth", x.way(0), 50);
        CHECK.due("stops there", x.stops(), 49);
        CHECK.due("one too many", x.way(-60), -1);
        CHECK.due("fifty", x.count(5), 50);
    }

    private static void stops() {
        BasinSizes x = new BasinSizes();
        CHECK.due("no place", x.stops(), -1);
        x.way(100);
        CHECK.due("one place", x.stops(), -1);
        x.way(90);
        CHECK.due("it falls", x.stops(), -1);
        x.way(89);
        CHECK.due("it falls on", x.stops(), -1);
        x.way(89);
        CHECK.due("as high as the one before", x.stops(), 3);
        x.way(100);
        CHECK.due("the first", x.stops(), 3);
        BasinSizes y = new BasinSizes();
        y.way(-5);
        y.way(-4);
        CHECK.due("it rises at once", y.stops(), 1);
    }
}
