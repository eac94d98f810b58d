/** Promises 2 to 5, at each edge that the document names: rain, volume, by, outflow. */
public final class RainEdgesTest {
    private static final Check CHECK = new Check("RainEdgesTest");
    private static final Edges EDGES = new Edges(CHECK);

    public static void main(String[] args) {
        yearsOfARain();
        minutesOfARain();
        depthOfARain();
        minutesRise();
        depthsRise();
        noStrongerRain();
        behindTheLastOfItsYears();
        fortyInAll();
        fortyOfLikeYears();
        refusedRainIsNotTheLastOne();
        yearsOfABasin();
        areaOfABasin();
        outflowOfABasin();
        cutOff();
        nothingAtLeast();
        firstThatNeedsMost();
        alsoLessThanNothing();
        roomOfAnOutflow();
        areaOfAnOutflow();
        yearsOfAnOutflow();
        notAboveARoom();
        noneUpToTheGreatest();
        CHECK.finish();
    }

    private static void rainTaken(int years, int minutes, int depth) {
        EDGES.taken(name("rain", years, minutes, depth), Edges.NOTHING, x -> x.rain(years, minutes, depth), 1);
    }

    private static void rainRefused(int years, int minutes, int depth) {
        String name = name("rain", years, minutes, depth);
        EDGES.refused(name, Edges.NOTHING, x -> x.rain(years, minutes, depth));
        EDGES.refused(name, Edges::something, x -> x.rain(years, minutes, depth));
    }

    private static String name(String call, long a, long b, long c) {
        return call + "(" + a + ", " + b + ", " + c + ")";
    }

    /** "years 1 .. 1,000". */
    private static void yearsOfARain() {
        rainTaken(1, 50, 50);
        rainRefused(0, 50, 50);
        rainRefused(-1, 50, 50);
        rainTaken(1000, 50, 50);
        rainRefused(1001, 50, 50);
        rainRefused(Integer.MAX_VALUE, 50, 50);
        rainRefused(Integer.MIN_VALUE, 50, 50);
    }

    /** "minutes 1 .. 10,000". */
    private static void minutesOfARain() {
        rainTaken(7, 1, 50);
        rainRefused(7, 0, 50);
        rainRefused(7, -1, 50);
        rainTaken(7, 10000, 50);
        rainRefused(7, 10001, 50);
        rainRefused(7, Integer.MAX_VALUE, 50);
        rainRefused(7, Integer.MIN_VALUE, 50);
    }

    /** "depth 1 .. 100,000". */
    private static void depthOfARain() {
        rainTaken(7, 50, 1);
        rainRefused(7, 50, 0);
        rainRefused(7, 50, -1);
        rainTaken(7, 50, 100000);
        rainRefused(7, 50, 100001);
        rainRefused(7, 50, Integer.MAX_VALUE);
        rainRefused(7, 50, Integer.MIN_VALUE);
    }

    /** "not rising .. behind the last one of its years": minutes. The last one of 1 is 20 minutes, 1300. */
    private static void minutesRise() {
        EDGES.taken("a minute more", Edges::something, x -> x.rain(1, 21, 1301), 3);
        EDGES.refused("as many minutes", Edges::something, x -> x.rain(1, 20, 1301));
        EDGES.refused("a minute less", Edges::something, x -> x.rain(1, 19, 1301));
    }

    /** "not rising .. behind the last one of its years": depths. */
    private static void depthsRise() {
        EDGES.taken("a hundredth more", Edges::something, x -> x.rain(1, 9000, 1301), 3);
        EDGES.refused("as deep", Edges::something, x -> x.rain(1, 9000, 1300));
        EDGES.refused("a hundredth less", Edges::something, x -> x.rain(1, 9000, 1299));
    }

    /** "or stronger": as strong as the last one is taken; 1300 by 20 are 65 a minute. */
    private static void noStrongerRain() {
        EDGES.taken("as strong", Edges::something, x -> x.rain(1, 21, 1365), 3);
        EDGES.refused("a hundredth stronger", Edges::something, x -> x.rain(1, 21, 1366));
        // 2 by 3 minutes: 6,667 by 10,000 is stronger by less than a hundredth a minute, and 6,666 is weaker.
        EDGES.taken("weaker by a third", x -> x.rain(7, 3, 2), x -> x.rain(7, 10000, 6666), 2);
        EDGES.refused("stronger by a third", x -> x.rain(7, 3, 2), x -> x.rain(7, 10000, 6667));
        // Products up to 10^9 and beyond 2^31 must not wrap around.
        EDGES.taken("all but greatest", x -> x.rain(7, 9999, 99999), x -> x.rain(7, 10000, 100000), 2);
        EDGES.refused("far stronger", x -> x.rain(7, 9999, 1), x -> x.rain(7, 10000, 100000));
        EDGES.taken("far weaker", x -> x.rain(7, 1, 99999), x -> x.rain(7, 10000, 100000), 2);
    }

    /** "behind the last one of its years": not behind the first, not behind the last of all. */
    private static void behindTheLastOfItsYears() {
        EDGES.refused("behind the first of 1 alone", Edges::something, x -> x.rain(1, 11, 701));
        EDGES.taken("not behind the last of all", Edges::something, x -> x.rain(1, 30, 1950), 3);
        EDGES.taken("behind the last of 5, not of 1", Edges::something, x -> x.rain(5, 16, 3200), 2);
        EDGES.refused("stronger than the last of 5", Edges::something, x -> x.rain(5, 16, 3201));
        EDGES.taken("years without a last one", Edges::something, x -> x.rain(7, 1, 1), 1);
    }

    private static Edges.Given rains(int many, int years) {
        return x -> {
            for (int i = 1; i <= many; i++) {
                x.rain(years, i, i);
            }
        };
    }

    /** "there are 40 in all": of all years together. */
    private static void fortyInAll() {
        Edges.Given all = Edges.and(rains(36, 8));
        EDGES.taken("the fortieth", all, x -> x.rain(7, 1, 1), 1);
        EDGES.taken("the fortieth of others", all, x -> x.rain(1, 21, 1301), 3);
        Edges.Given full = Edges.and(rains(37, 8));
        EDGES.refused("the forty-first of new years", full, x -> x.rain(7, 1, 1));
        EDGES.refused("the forty-first of old years", full, x -> x.rain(1, 21, 1301));
        EDGES.taken("forty", full, x -> x.count(0), 40);
    }

    /** "how many of these years there are", up to all 40. */
    private static void fortyOfLikeYears() {
        EDGES.taken("the thirty-ninth of 7", rains(38, 7), x -> x.rain(7, 39, 39), 39);
        EDGES.taken("the fortieth of 7", rains(39, 7), x -> x.rain(7, 40, 40), 40);
        EDGES.refused("the forty-first of 7", rains(40, 7), x -> x.rain(7, 41, 41));
        EDGES.taken("the fortieth needs most", rains(40, 7), x -> x.by(7, 1000, 0), 40);
        EDGES.taken("the volume of the fortieth", rains(40, 7), x -> x.volume(7, 1000, 0), 4000);
        EDGES.taken("the outflow of the fortieth", rains(40, 7), x -> x.outflow(7, 1000, 3999), 1);
    }

    /** A refused rain is not the one that the next must rise above. */
    private static void refusedRainIsNotTheLastOne() {
        EDGES.taken("behind refused minutes", x -> {
            x.rain(7, 10, 100);
            x.rain(7, 10000, 100);
        }, x -> x.rain(7, 11, 101), 2);
        EDGES.taken("behind a refused depth", x -> {
            x.rain(7, 10, 100);
            x.rain(7, 11, 100000);
        }, x -> x.rain(7, 11, 101), 2);
        EDGES.taken("behind a refused first", x -> x.rain(7, 10000, 100001), x -> x.rain(7, 1, 1), 1);
    }

    private static void basinTaken(int years, int area, int outflow, long volume, int by) {
        EDGES.leavesNoTrace(name("volume", years, area, outflow), Edges::something,
                x -> x.volume(years, area, outflow), volume);
        EDGES.leavesNoTrace(name("by", years, area, outflow), Edges::something,
                x -> x.by(years, area, outflow), by);
    }

    private static void basinRefused(int years, int area, int outflow) {
        basinTaken(years, area, outflow, -1, -1);
    }

    /** "BAD: no rain of these years". */
    private static void yearsOfABasin() {
        basinTaken(1, 10, 0, 1300, 20);
        basinTaken(5, 10, 0, 3000, 15);
        for (int years : new int[] {0, 2, 4, 6, 7, 1000, 1001, -1, Integer.MIN_VALUE, Integer.MAX_VALUE}) {
            basinRefused(years, 10, 0);
        }
        EDGES.taken("the greatest years", x -> x.rain(1000, 1, 70), x -> x.volume(1000, 10, 1), 10);
        EDGES.taken("the greatest years, by", x -> x.rain(1000, 1, 70), x -> x.by(1000, 10, 1), 1);
    }

    /** "an area 0 .. 1,000,000". */
    private static void areaOfABasin() {
        basinTaken(1, 0, 0, 0, 10);
        basinRefused(1, -1, 0);
        basinRefused(1, Integer.MIN_VALUE, 0);
        basinTaken(1, 1000000, 0, 130000000, 20);
        basinRefused(1, 1000001, 0);
        basinRefused(1, Integer.MAX_VALUE, 0);
    }

    /** "an outflow 0 .. 100,000". */
    private static void outflowOfABasin() {
        basinTaken(5, 1000000, 0, 300000000, 15);
        basinRefused(5, 1000000, -1);
        basinRefused(5, 1000000, Integer.MIN_VALUE);
        basinTaken(5, 1000000, 100000, 210000000, 15);
        basinRefused(5, 1000000, 100001);
        basinRefused(5, 1000000, Integer.MAX_VALUE);
    }

    /** "its depth times the area by 10 (cut off)": before the outflow goes. */
    private static void cutOff() {
        Edges.Given thin = x -> x.rain(7, 1, 1);
        EDGES.taken("9 by 10", thin, x -> x.volume(7, 9, 0), 0);
        EDGES.taken("10 by 10", thin, x -> x.volume(7, 10, 0), 1);
        EDGES.taken("19 by 10", thin, x -> x.volume(7, 19, 0), 1);
        EDGES.taken("20 by 10", thin, x -> x.volume(7, 20, 0), 2);
        EDGES.taken("619 by 10 less 60", thin, x -> x.volume(7, 619, 1), 1);
        EDGES.taken("all that can come", x -> x.rain(7, 10000, 100000), x -> x.volume(7, 1000000, 0), 10000000000L);
        // Cut off each by itself, both need 1, so that the first is the one.
        Edges.Given like = x -> {
            x.rain(7, 10, 11);
            x.rain(7, 20, 12);
        };
        EDGES.taken("alike when cut off", like, x -> x.by(7, 1, 0), 10);
        EDGES.taken("not alike", like, x -> x.by(7, 10, 0), 20);
    }

    /** "0 at least". */
    private static void nothingAtLeast() {
        Edges.Given one = x -> x.rain(7, 1, 60);
        EDGES.taken("one tenth is left", x -> x.rain(7, 1, 61), x -> x.volume(7, 10, 1), 1);
        EDGES.taken("just nothing", one, x -> x.volume(7, 10, 1), 0);
        EDGES.taken("one tenth below", x -> x.rain(7, 1, 59), x -> x.volume(7, 10, 1), 0);
        EDGES.taken("far below", x -> x.rain(7, 10000, 1), x -> x.volume(7, 0, 100000), 0);
    }

    /** "the rain is the first that needs it", "of several the first". */
    private static void firstThatNeedsMost() {
        // At an area of 10 and an outflow of 1 these need 100, 100 and 99 or 100.
        for (int depth = 1899; depth <= 1900; depth++) {
            int third = depth;
            EDGES.taken("the first of several", x -> three(x, third), x -> x.by(7, 10, 1), 10);
            EDGES.taken("what it needs", x -> three(x, third), x -> x.volume(7, 10, 1), 100);
        }
        EDGES.taken("a later one needs more", x -> {
            x.rain(7, 10, 700);
            x.rain(7, 20, 1301);
            x.rain(7, 30, 1901);
        }, x -> x.by(7, 10, 1), 20);
    }

    private static void three(BasinSizes x, int third) {
        x.rain(7, 10, 700);
        x.rain(7, 20, 1300);
        x.rain(7, 30, third);
    }

    /** "also when it needs less than 0". */
    private static void alsoLessThanNothing() {
        Edges.Given two = x -> {
            x.rain(7, 10, 100);
            x.rain(7, 20, 200);
        };
        EDGES.taken("both need 0", two, x -> x.by(7, 600, 10), 10);
        EDGES.taken("the first is less below 0", two, x -> x.by(7, 599, 10), 10);
        EDGES.taken("both are above 0", two, x -> x.by(7, 601, 10), 20);
        EDGES.taken("both are far below 0", two, x -> x.by(7, 0, 100000), 10);
        EDGES.taken("one far below 0", x -> x.rain(7, 10000, 1), x -> x.by(7, 0, 100000), 10000);
        // Cut off, both need - 1: 599 less 600 and 659 less 660.
        EDGES.taken("alike below 0", x -> {
            x.rain(7, 10, 5999);
            x.rain(7, 11, 6590);
        }, x -> x.by(7, 1, 1), 10);
    }

    private static void outflowAnswers(int years, int area, long room, int due) {
        EDGES.leavesNoTrace(name("outflow", years, area, room), Edges::something,
                x -> x.outflow(years, area, room), due);
    }

    /** "a room (0 .. 2^50)". */
    private static void roomOfAnOutflow() {
        outflowAnswers(5, 10, 0, 4);
        outflowAnswers(5, 10, -1, -1);
        outflowAnswers(5, 10, Long.MIN_VALUE, -1);
        outflowAnswers(5, 1000000, 1L << 50, 0);
        outflowAnswers(5, 1000000, (1L << 50) + 1, -1);
        outflowAnswers(5, 1000000, Long.MAX_VALUE, -1);
        // A room that looks small in 32 bits is still none.
        outflowAnswers(5, 10, 1L << 51, -1);
    }

    /** "as above": the area. */
    private static void areaOfAnOutflow() {
        outflowAnswers(5, 0, 0, 0);
        outflowAnswers(5, -1, 0, -1);
        outflowAnswers(5, Integer.MIN_VALUE, 0, -1);
        outflowAnswers(5, 1000000, 210000000, 100000);
        outflowAnswers(5, 1000001, 210000000, -1);
        outflowAnswers(5, 1000001, 1L << 50, -1);
        outflowAnswers(5, Integer.MAX_VALUE, 1L << 50, -1);
    }

    /** "as above": no rain of these years. */
    private static void yearsOfAnOutflow() {
        outflowAnswers(1, 10, 1300, 0);
        for (int years : new int[] {0, 2, 4, 6, 7, 1000, 1001, -1, Integer.MIN_VALUE, Integer.MAX_VALUE}) {
            outflowAnswers(years, 10, 1300, -1);
        }
    }

    /** "The least whole outflow for which the volume is not above a room". 3000 come in 900 seconds. */
    private static void notAboveARoom() {
        outflowAnswers(5, 10, 3000, 0);
        outflowAnswers(5, 10, 2999, 1);
        outflowAnswers(5, 10, 2100, 1);
        outflowAnswers(5, 10, 2099, 2);
        outflowAnswers(5, 10, 1200, 2);
        outflowAnswers(5, 10, 1199, 3);
        // Of 1, 700 come in 600 seconds and 1300 in 1200: at a room of 99 the first needs 2, and so the second.
        outflowAnswers(1, 10, 100, 1);
        outflowAnswers(1, 10, 99, 2);
        outflowAnswers(1, 10, 0, 2);
        outflowAnswers(1, 10, 1299, 1);
        outflowAnswers(1, 10, 1300, 0);
    }

    /** "BAD: none up to 100,000". A minute of 6,000,000 goes at 100,000. */
    private static void noneUpToTheGreatest() {
        Edges.Given strong = x -> x.rain(7, 1, 100000);
        EDGES.taken("just the greatest", strong, x -> x.outflow(7, 600, 0), 100000);
        EDGES.taken("a little more comes", x -> x.rain(7, 1, 60001), x -> x.outflow(7, 1000, 0), -1);
        EDGES.taken("room for it", x -> x.rain(7, 1, 60001), x -> x.outflow(7, 1000, 100), 100000);
        EDGES.taken("one tenth too little room for it", x -> x.rain(7, 1, 60001), x -> x.outflow(7, 1000, 99), -1);
        EDGES.taken("one below the greatest", x -> x.rain(7, 1, 99999), x -> x.outflow(7, 600, 0), 99999);
        EDGES.taken("far too much", strong, x -> x.outflow(7, 1000000, 0), -1);
        EDGES.taken("far too much, all room but enough", strong, x -> x.outflow(7, 1000000, 9994000000L), 100000);
        EDGES.taken("and one less", strong, x -> x.outflow(7, 1000000, 9993999999L), -1);
    }
}
