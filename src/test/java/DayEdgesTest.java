/** Promises 15 to 18, at each edge that the document names: day, run, behind, room. */
public final class DayEdgesTest {
    private static final Check CHECK = new Check("DayEdgesTest");
    private static final Edges EDGES = new Edges(CHECK);
    private static final long TERA = 1_000_000_000_000L;
    private static final long PETA = 1_000_000_000_000_000L;

    public static void main(String[] args) {
        waterOfADay();
        fourHundredDays();
        outflowOfARun();
        roomOfARun();
        runOfNoDays();
        asFarAsThereIsWater();
        aboveTheRoom();
        fromAnEmptyBasin();
        refusedRunIsNotTheLastOne();
        noRunSinceDaysCame();
        noRunSinceRoom();
        noSuchDay();
        noSuchThing();
        nothingElseEndsARun();
        outflowOfARoom();
        daysOfARoom();
        runStays();
        leastRoom();
        roomOfNoDays();
        roomOfOneDay();
        greatestRoom();
        CHECK.finish();
    }

    private static void dayRefused(long water) {
        EDGES.refused("day(" + water + ")", Edges.NOTHING, x -> x.day(water));
        EDGES.refused("day(" + water + ")", Edges::something, x -> x.day(water));
    }

    /** "0 .. 10^12". */
    private static void waterOfADay() {
        EDGES.taken("a dry day", Edges.NOTHING, x -> x.day(0), 1);
        EDGES.taken("a dry day more", Edges::something, x -> x.day(0), 3);
        dayRefused(-1);
        dayRefused(Long.MIN_VALUE);
        EDGES.taken("the wettest day", Edges.NOTHING, x -> x.day(TERA), 1);
        EDGES.taken("the wettest day more", Edges::something, x -> x.day(TERA), 3);
        dayRefused(TERA + 1);
        dayRefused(Long.MAX_VALUE);
        // In 32 bits these would be 0 and 1.
        dayRefused(1L << 40);
        dayRefused((1L << 40) + 1);
        EDGES.taken("what comes is beyond 32 bits", x -> x.day((1L << 32) + 5), x -> {
            x.run(0, PETA);
            return x.behind(0, 0);
        }, (1L << 32) + 5);
    }

    private static Edges.Given days(int many, long water) {
        return x -> {
            for (int i = 0; i < many; i++) {
                x.day(water);
            }
        };
    }

    /** "BAD: .. there are 400"; such a day did not come, so that the run is still there. */
    private static void fourHundredDays() {
        EDGES.taken("the 399th", days(398, 7), x -> x.day(7), 399);
        EDGES.taken("the 400th", days(399, 7), x -> x.day(7), 400);
        EDGES.refused("the 401st", days(400, 7), x -> x.day(7));
        EDGES.refused("a dry 401st", days(400, 7), x -> x.day(0));
        EDGES.taken("four hundred", days(400, 7), x -> x.count(4), 400);
        Edges.Given ran = x -> {
            days(400, 7).to(x);
            x.run(2, 3);
        };
        EDGES.refused("the 401st behind a run", ran, x -> x.day(7));
        EDGES.taken("all days are run through", days(400, 7), x -> x.run(2, 3), 400);
        EDGES.taken("the last day", ran, x -> x.behind(399, 3), 5 * 400 - 3);
        EDGES.taken("none behind the last", ran, x -> x.behind(400, 3), -1);
    }

    private static void runTaken(String name, Edges.Given given, long outflow, long room, int overflowing, long... last) {
        EDGES.taken("run " + name, given, x -> x.run(outflow, room), overflowing);
        for (int what = 0; what < last.length; what++) {
            int asked = what;
            EDGES.taken("behind run " + name + ": " + what, given, x -> {
                x.run(outflow, room);
                return x.behind(x.count(4) - 1, asked);
            }, last[what]);
        }
    }

    private static void runRefused(long outflow, long room) {
        String name = "run(" + outflow + ", " + room + ")";
        EDGES.refused(name, Edges.NOTHING, x -> x.run(outflow, room));
        EDGES.refused(name, days(3, 5), x -> x.run(outflow, room));
        EDGES.refused(name, Edges::something, x -> x.run(outflow, room));
    }

    /** "an outflow a day .. (each 0 .. 10^15)". */
    private static void outflowOfARun() {
        runTaken("at no outflow", days(3, 5), 0, 9, 2, 9, 0, 5, 6);
        runRefused(-1, 9);
        runRefused(Long.MIN_VALUE, 9);
        runTaken("at the greatest outflow", days(3, 5), PETA, 9, 0, 0, 5, 0, 0);
        runRefused(PETA + 1, 9);
        runRefused(Long.MAX_VALUE, 9);
        // An outflow beyond 32 bits is not one of 0.
        runTaken("at an outflow of 2^32", days(3, 5), 1L << 32, 9, 0, 0, 5, 0, 0);
    }

    /** "and a room (each 0 .. 10^15)". */
    private static void roomOfARun() {
        runTaken("with no room", days(3, 5), 2, 0, 3, 0, 2, 3, 9);
        runRefused(2, -1);
        runRefused(2, Long.MIN_VALUE);
        runTaken("with the greatest room", days(3, 5), 2, PETA, 0, 9, 2, 0, 0);
        runRefused(2, PETA + 1);
        runRefused(2, Long.MAX_VALUE);
        runTaken("with a room of 2^32", days(3, 5), 2, 1L << 32, 0, 9, 2, 0, 0);
        runTaken("with no room and no outflow", days(3, 5), 0, 0, 3, 0, 0, 5, 15);
        runRefused(-1, -1);
    }

    private static void runOfNoDays() {
        EDGES.taken("run of no days", Edges.NOTHING, x -> x.run(0, 0), 0);
        EDGES.taken("run of no days at the most", Edges.NOTHING, x -> x.run(PETA, PETA), 0);
        EDGES.refused("wrong run of no days", Edges.NOTHING, x -> x.run(PETA + 1, PETA));
        EDGES.taken("behind no days", x -> x.run(0, 0), x -> x.behind(0, 0), -1);
        EDGES.taken("behind a day that came after", x -> {
            x.run(0, 0);
            x.day(1);
        }, x -> x.behind(0, 0), -1);
    }

    /** "then the outflow goes, as far as there is water". */
    private static void asFarAsThereIsWater() {
        runTaken("of more than goes", days(1, 5), 4, 9, 0, 1, 4, 0, 0);
        runTaken("of just what goes", days(1, 5), 5, 9, 0, 0, 5, 0, 0);
        runTaken("of less than goes", days(1, 5), 6, 9, 0, 0, 5, 0, 0);
        runTaken("of a dry day", days(1, 0), 6, 9, 0, 0, 0, 0, 0);
        Edges.Given wetThenDry = x -> {
            x.day(10);
            x.day(0);
        };
        runTaken("of what is left, less than goes", wetThenDry, 6, 9, 0, 0, 4, 0, 0);
        runTaken("of what is left, just what goes", wetThenDry, 5, 9, 0, 0, 5, 0, 0);
        runTaken("of what is left, more than goes", wetThenDry, 4, 9, 0, 2, 4, 0, 0);
    }

    /** "what is above the room then OVERFLOWS": then is when the outflow has gone. */
    private static void aboveTheRoom() {
        runTaken("of just the room", days(1, 12), 3, 9, 0, 9, 3, 0, 0);
        runTaken("of one above the room", days(1, 13), 3, 9, 1, 9, 3, 1, 1);
        runTaken("of one below the room", days(1, 11), 3, 9, 0, 8, 3, 0, 0);
        runTaken("of just the room on a later day", days(3, 5), 2, 9, 0, 9, 2, 0, 0);
        runTaken("of one above on a later day", days(3, 5), 2, 8, 1, 8, 2, 1, 1);
        runTaken("of one above on two days", days(4, 5), 4, 2, 2, 2, 4, 1, 2);
        runTaken("of a full basin and a dry day", x -> {
            x.day(20);
            x.day(0);
        }, 0, 9, 1, 9, 0, 0, 11);
    }

    /** "from an empty basin": each run anew. */
    private static void fromAnEmptyBasin() {
        EDGES.taken("held by the second run", x -> {
            x.day(5);
            x.run(0, 100);
            x.run(0, 100);
        }, x -> x.behind(0, 0), 5);
        EDGES.taken("overflowed by the second run", x -> {
            x.day(5);
            x.run(0, 0);
            x.run(0, 1);
        }, x -> x.behind(0, 3), 4);
        EDGES.taken("days of the second run", x -> {
            x.day(5);
            x.run(0, 4);
        }, x -> x.run(0, 5), 0);
    }

    private static void refusedRunIsNotTheLastOne() {
        Edges.Given refused = x -> {
            x.day(5);
            x.run(1, 2);
            x.run(-1, 3);
            x.run(0, PETA + 1);
        };
        long[] due = {2, 1, 2, 2};
        for (int what = 0; what <= 3; what++) {
            int asked = what;
            EDGES.taken("behind a refused run " + what, refused, x -> x.behind(0, asked), due[what]);
        }
        EDGES.taken("a refused run alone is none", x -> {
            x.day(5);
            x.run(-1, 0);
        }, x -> x.behind(0, 0), -1);
    }

    /** Each of the four numbers of a day, or BAD for all of them. */
    private static void behind(String name, Edges.Given given, int day, long... due) {
        for (int what = 0; what <= 3; what++) {
            int asked = what;
            EDGES.leavesNoTrace("behind " + name + ": " + what, given, x -> x.behind(day, asked),
                    due.length == 4 ? due[what] : -1);
        }
    }

    private static Edges.Given ranThen(Edges.Given then) {
        return x -> {
            x.day(500);
            x.day(1500);
            x.run(600, 700);
            then.to(x);
        };
    }

    /** "BAD: no run since days came". */
    private static void noRunSinceDaysCame() {
        behind("no run", days(2, 5), 0);
        behind("a run", ranThen(Edges.NOTHING), 1, 700, 600, 200, 200);
        behind("a new day", ranThen(x -> x.day(1)), 0);
        behind("a new day, of it", ranThen(x -> x.day(1)), 2);
        behind("a new dry day", ranThen(x -> x.day(0)), 1);
        behind("a refused day", ranThen(x -> x.day(-1)), 1, 700, 600, 200, 200);
        behind("another refused day", ranThen(x -> x.day(TERA + 1)), 1, 700, 600, 200, 200);
        behind("a new day and a new run", ranThen(x -> {
            x.day(1);
            x.run(600, 700);
        }), 2, 101, 600, 0, 200);
        behind("a new day and a refused run", ranThen(x -> {
            x.day(1);
            x.run(600, -1);
        }), 0);
    }

    /** "or since room()". */
    private static void noRunSinceRoom() {
        behind("a room", ranThen(x -> x.room(600, 0)), 0);
        behind("a room of 0", ranThen(x -> x.room(PETA, 400)), 1);
        behind("a room and a new run", ranThen(x -> {
            x.room(0, 0);
            x.run(600, 700);
        }), 1, 700, 600, 200, 200);
        behind("a room and a refused run", ranThen(x -> {
            x.room(0, 0);
            x.run(-1, 700);
        }), 1);
        behind("a room and a refused one", ranThen(x -> {
            x.room(0, 0);
            x.room(0, -1);
        }), 1);
    }

    /** "no such day": from 0 to the last one. */
    private static void noSuchDay() {
        behind("the first day", ranThen(Edges.NOTHING), 0, 0, 500, 0, 0);
        behind("before the first day", ranThen(Edges.NOTHING), -1);
        behind("the last day", ranThen(Edges.NOTHING), 1, 700, 600, 200, 200);
        behind("after the last day", ranThen(Edges.NOTHING), 2);
        behind("long before", ranThen(Edges.NOTHING), Integer.MIN_VALUE);
        behind("long after", ranThen(Edges.NOTHING), Integer.MAX_VALUE);
        behind("where there is no room for days", ranThen(Edges.NOTHING), 400);
    }

    /** "what 0 .. 1 .. 2 .. 3". */
    private static void noSuchThing() {
        for (int what : new int[] {-1, 4, 5, Integer.MIN_VALUE, Integer.MAX_VALUE}) {
            EDGES.refused("behind 1 " + what, ranThen(Edges.NOTHING), x -> x.behind(1, what));
        }
    }

    /** Only days and room() end a run. */
    private static void nothingElseEndsARun() {
        behind("all other calls", ranThen(x -> {
            x.rain(1, 1, 1);
            x.volume(1, 1, 1);
            x.by(1, 1, 1);
            x.outflow(1, 1, 1);
            x.level(0, 1);
            x.level(9, 1);
            x.area(1);
            x.content(1);
            x.fill(1);
            x.culvert(1, 1, 1, 1);
            Check.tell(x, "h<1");
            x.state(0, 0, 0, 0);
            x.head(0, 0, 0, 0);
            x.behind(0, 0);
            x.way(1);
            x.stops();
            x.count(4);
        }), 1, 700, 600, 200, 200);
    }

    private static void roomIs(String name, Edges.Given given, long outflow, int most, long due) {
        EDGES.taken("room " + name, given, x -> x.room(outflow, most), due);
    }

    private static void roomRefused(long outflow, int most) {
        String name = "room(" + outflow + ", " + most + ")";
        EDGES.refused(name, Edges.NOTHING, x -> x.room(outflow, most));
        EDGES.refused(name, Edges::something, x -> x.room(outflow, most));
    }

    /** "BAD: none such numbers": the outflow is one of a run. */
    private static void outflowOfARoom() {
        roomIs("at no outflow", days(3, 5), 0, 0, 15);
        roomRefused(-1, 0);
        roomRefused(Long.MIN_VALUE, 0);
        roomIs("at the greatest outflow", days(3, 5), PETA, 0, 0);
        roomRefused(PETA + 1, 0);
        roomRefused(Long.MAX_VALUE, 0);
    }

    /** "at most so many days (0 .. 400)". */
    private static void daysOfARoom() {
        roomIs("for no day", days(3, 5), 2, 0, 9);
        roomRefused(2, -1);
        roomRefused(2, Integer.MIN_VALUE);
        roomIs("for 400 days", days(3, 5), 2, 400, 0);
        roomRefused(2, 401);
        roomRefused(2, Integer.MAX_VALUE);
        roomIs("for 399 of 400 days", days(400, 5), 2, 399, 3);
        roomIs("for 400 of 400 days", days(400, 5), 2, 400, 0);
        roomIs("for none of 400 days", days(400, 5), 2, 0, 1200);
    }

    /** "(the run stays then)". */
    private static void runStays() {
        behind("a room for - 1 days", ranThen(x -> x.room(0, -1)), 1, 700, 600, 200, 200);
        behind("a room for 401 days", ranThen(x -> x.room(0, 401)), 1, 700, 600, 200, 200);
        behind("a room at an outflow of - 1", ranThen(x -> x.room(-1, 0)), 1, 700, 600, 200, 200);
        behind("a room at too great an outflow", ranThen(x -> x.room(PETA + 1, 0)), 1, 700, 600, 200, 200);
        behind("no run and a refused room", x -> {
            x.day(5);
            x.room(0, -1);
        }, 0);
    }

    /** "The least room for which at most so many days .. overflow": one less is not enough. */
    private static void leastRoom() {
        long[] waters = {500, 1500, 2500, 0, 900};
        Edges.Given five = x -> {
            for (long water : waters) {
                x.day(water);
            }
        };
        for (long outflow : new long[] {0, 1, 499, 500, 600, 900, 1500, 2499, 2500, 2501}) {
            for (int most = 0; most <= 5; most++) {
                BasinSizes x = new BasinSizes();
                five.to(x);
                long least = x.room(outflow, most);
                String name = "room(" + outflow + ", " + most + ") of " + least;
                CHECK.due(name + " is enough", x.run(outflow, least) <= most, true);
                CHECK.due(name + " is least", least == 0 || x.run(outflow, least - 1) > most, true);
            }
        }
        roomIs("for none", five, 600, 0, 2800);
        roomIs("for one", five, 600, 1, 900);
        // With 300 the last day, and the empty one before it, find room for what is left of 900.
        roomIs("for two", five, 600, 2, 300);
        roomIs("for three", five, 600, 3, 0);
        roomIs("for as many as overflow", five, 2500, 0, 0);
        roomIs("for one more than overflow", five, 2499, 1, 0);
        roomIs("for one less than overflow", five, 2499, 0, 1);
    }

    private static void roomOfNoDays() {
        roomIs("of no days", Edges.NOTHING, 0, 0, 0);
        roomIs("of no days for 400", Edges.NOTHING, PETA, 400, 0);
        roomIs("of dry days", days(3, 0), 0, 0, 0);
    }

    private static void roomOfOneDay() {
        roomIs("of one day for none", days(1, 5), 0, 0, 5);
        roomIs("of one day for one", days(1, 5), 0, 1, 0);
        roomIs("of one day less the outflow", days(1, 5), 4, 0, 1);
        roomIs("of one day that goes out", days(1, 5), 5, 0, 0);
        roomIs("of one day at more", days(1, 5), 6, 0, 0);
    }

    private static void greatestRoom() {
        roomIs("of all that can come", days(400, TERA), 0, 0, 400 * TERA);
        roomIs("of all but a day", days(400, TERA), 0, 1, 399 * TERA);
        roomIs("of one day", days(400, TERA), 0, 399, TERA);
        roomIs("at all but what comes", days(400, TERA), TERA - 1, 0, 400);
        roomIs("at what comes", days(400, TERA), TERA, 0, 0);
        runTaken("of all that can come", days(400, TERA), 0, 400 * TERA, 0, 400 * TERA, 0, 0, 0);
        runTaken("of one more than room", days(400, TERA), 0, 400 * TERA - 1, 1, 400 * TERA - 1, 0, 1, 1);
        runTaken("with no room at all", days(400, TERA), 0, 0, 400, 0, 0, TERA, 400 * TERA);
    }
}
