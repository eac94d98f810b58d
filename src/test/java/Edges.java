import java.util.LinkedHashMap;
import java.util.Map;

/**
 * The last input that a call takes and the first that it does not. Each one is tried on an object of its own;
 * behind a call that is refused, and behind one that only asks, the object is compared with a twin that never
 * had the call.
 */
final class Edges {
    /** What is done with an object before. */
    interface Given {
        void to(BasinSizes x);
    }

    /** The call at the edge, and its answer; a boolean counts 1 or 0. */
    interface Call {
        long on(BasinSizes x);
    }

    static final Given NOTHING = x -> { };

    private final Check check;

    Edges(Check check) {
        this.check = check;
    }

    /** The call is taken: it answers what is due. */
    void taken(String name, Given given, Call call, long due) {
        check.due(name, call.on(made(given)), due);
    }

    /** The call answers BAD, and leaves no trace. */
    void refused(String name, Given given, Call call) {
        leavesNoTrace(name, given, call, -1);
    }

    /** The call answers what is due, and leaves no trace. */
    void leavesNoTrace(String name, Given given, Call call, long due) {
        BasinSizes x = made(given);
        BasinSizes twin = made(given);
        check.due(name, call.on(x), due);
        Map<String, Long> want = traces(twin);
        Map<String, Long> got = traces(x);
        for (String ask : want.keySet()) {
            check.due(ask + " behind " + name, got.get(ask), want.get(ask));
        }
    }

    private static BasinSizes made(Given given) {
        BasinSizes x = new BasinSizes();
        given.to(x);
        return x;
    }

    /** Something of everything, in some 30 calls. Its signs wait for states(), and its run is there. */
    static void something(BasinSizes x) {
        x.rain(1, 10, 700);
        x.rain(1, 20, 1300);
        x.rain(5, 15, 3000);
        x.level(-10, 4);
        x.level(0, 9);
        x.level(10, 20);
        x.culvert(1000, 800, 20000, 100);
        x.culvert(3, 4, 5, 6);
        Check.tell(x, "h<d&t<d;h>q");
        Check.collect(x, "h<900");
        x.way(100);
        x.way(90);
        x.way(90);
        x.day(500);
        x.day(1500);
        x.run(600, 700);
    }

    /** Something of everything, and more behind it. */
    static Given and(Given more) {
        return x -> {
            something(x);
            more.to(x);
        };
    }

    /** All that can be seen of an object, in some 60 calls; what changes it comes last. */
    static Map<String, Long> traces(BasinSizes x) {
        Map<String, Long> seen = new LinkedHashMap<>();
        for (int what = 0; what <= 6; what++) {
            seen.put("count " + what, (long) x.count(what));
        }
        for (int years : new int[] {1, 5, 7}) {
            seen.put("volume of " + years, x.volume(years, 1000, 0));
            seen.put("by of " + years, (long) x.by(years, 1000, 100));
            seen.put("outflow of " + years, (long) x.outflow(years, 1000, 100));
        }
        for (int mm : new int[] {-11, -9, 0, 9, 11}) {
            seen.put("content " + mm, x.content(mm));
        }
        seen.put("area", (long) x.area(9));
        seen.put("fill", (long) x.fill(700));
        seen.put("state", (long) x.state(0, 700, 5, 5));
        seen.put("state of another", (long) x.state(1, 3, 3, 3));
        seen.put("state of a third", (long) x.state(2, 3, 3, 3));
        seen.put("head", (long) x.head(0, 1, 5, 5));
        for (int day : new int[] {0, 1, 2, 399}) {
            for (int what = 0; what <= 3; what++) {
                seen.put("behind " + day + " " + what, x.behind(day, what));
            }
        }
        seen.put("stops", (long) x.stops());
        change(x, seen);
        return seen;
    }

    private static void change(BasinSizes x, Map<String, Long> seen) {
        seen.put("states", (long) x.states());
        seen.put("states then", (long) x.count(3));
        seen.put("signs then", (long) x.count(6));
        seen.put("state then", (long) x.state(0, 850, 900, 5));
        seen.put("one more rain", (long) x.rain(1, 21, 1301));
        seen.put("one more of others", (long) x.rain(7, 1, 1));
        seen.put("one more level", (long) x.level(11, 20));
        seen.put("one more culvert", (long) x.culvert(1, 1, 1, 1));
        seen.put("one more place", (long) x.way(80));
        seen.put("one more sign", x.unit('h') ? 1L : 0L);
        seen.put("room", x.room(600, 1));
        seen.put("run behind room", x.behind(0, 0));
        seen.put("room for all", x.room(0, 0));
        seen.put("one more day", (long) x.day(1));
        seen.put("run anew", (long) x.run(600, 700));
        seen.put("gone anew", x.behind(1, 1));
    }
}
