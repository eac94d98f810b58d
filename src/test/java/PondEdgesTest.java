/** Promises 6 to 9, at each edge that the document names: level, area, content, fill. */
public final class PondEdgesTest {
    private static final Check CHECK = new Check("PondEdgesTest");
    private static final Edges EDGES = new Edges(CHECK);
    private static final int NO_LEVEL = -1_000_000;

    public static void main(String[] args) {
        mmOfALevel();
        areaOfALevel();
        levelsRise();
        areasDoNotFall();
        twentyLevels();
        refusedLevelIsNotTheLastOne();
        belowTheFirst();
        aboveTheLast();
        fewerThanOne();
        justOne();
        atALevelAndBesideIt();
        areaIsCutOff();
        waterIsOfTheCutOffArea();
        waterOfNothing();
        lessThanNothing();
        thatMuchDoesNotFit();
        noLevel();
        greatestLevel();
        greatestNumbers();
        CHECK.finish();
    }

    private static void levelTaken(int mm, int area) {
        EDGES.taken("level(" + mm + ", " + area + ")", Edges.NOTHING, x -> x.level(mm, area), 1);
    }

    private static void levelRefused(int mm, int area) {
        String name = "level(" + mm + ", " + area + ")";
        EDGES.refused(name, Edges.NOTHING, x -> x.level(mm, area));
        EDGES.refused(name, Edges::something, x -> x.level(mm, area));
    }

    /** "- 100,000 .. 100,000". */
    private static void mmOfALevel() {
        levelTaken(-100000, 30);
        levelRefused(-100001, 30);
        levelRefused(Integer.MIN_VALUE, 30);
        levelTaken(100000, 30);
        EDGES.taken("up to the highest", Edges::something, x -> x.level(100000, 30), 4);
        levelRefused(100001, 30);
        levelRefused(Integer.MAX_VALUE, 30);
    }

    /** "with an area 0 .. 1,000,000". */
    private static void areaOfALevel() {
        levelTaken(50, 0);
        levelRefused(50, -1);
        levelRefused(50, Integer.MIN_VALUE);
        levelTaken(50, 1000000);
        EDGES.taken("up to the widest", Edges::something, x -> x.level(50, 1000000), 4);
        levelRefused(50, 1000001);
        levelRefused(50, Integer.MAX_VALUE);
    }

    /** "not rising": the last level is at 10. */
    private static void levelsRise() {
        EDGES.taken("a mm more", Edges::something, x -> x.level(11, 30), 4);
        EDGES.refused("as high", Edges::something, x -> x.level(10, 30));
        EDGES.refused("a mm less", Edges::something, x -> x.level(9, 30));
        EDGES.refused("above the first alone", Edges::something, x -> x.level(-9, 30));
    }

    /** "the area falls": the last one is 20. */
    private static void areasDoNotFall() {
        EDGES.taken("as wide", Edges::something, x -> x.level(11, 20), 4);
        EDGES.refused("a square metre less", Edges::something, x -> x.level(11, 19));
        EDGES.refused("as wide as the first alone", Edges::something, x -> x.level(11, 4));
        EDGES.taken("none and none", x -> x.level(0, 0), x -> x.level(1, 0), 2);
    }

    private static Edges.Given levels(int many, int from) {
        return x -> {
            for (int i = 1; i <= many; i++) {
                x.level(from + i, 20 + i);
            }
        };
    }

    /** "there are 20". */
    private static void twentyLevels() {
        EDGES.taken("the twentieth", levels(19, 0), x -> x.level(20, 50), 20);
        EDGES.refused("the twenty-first", levels(20, 0), x -> x.level(21, 50));
        EDGES.taken("the twentieth of something", Edges.and(levels(16, 10)), x -> x.level(27, 50), 20);
        EDGES.refused("the twenty-first of something", Edges.and(levels(17, 10)), x -> x.level(28, 50));
        EDGES.taken("twenty", levels(20, 0), x -> x.count(1), 20);
        EDGES.taken("area of the twentieth", levels(20, 0), x -> x.area(20), 40);
        EDGES.taken("none above the twentieth", levels(20, 0), x -> x.area(21), -1);
        // 21 + 22, 22 + 23, .. 39 + 40, each by 5.
        EDGES.taken("content of the twentieth", levels(20, 0), x -> x.content(20), 5795);
        EDGES.taken("the twentieth filled", levels(20, 0), x -> x.fill(5795), 20);
        EDGES.taken("nothing above the twentieth", levels(20, 0), x -> x.fill(5796), NO_LEVEL);
    }

    /** A refused level is not the one that the next must rise above. */
    private static void refusedLevelIsNotTheLastOne() {
        EDGES.taken("behind a refused area", x -> {
            x.level(0, 5);
            x.level(9, 4);
        }, x -> x.level(1, 5), 2);
        EDGES.taken("behind a refused level", x -> {
            x.level(0, 5);
            x.level(0, 9);
        }, x -> x.level(1, 5), 2);
        EDGES.taken("behind a refused first", x -> x.level(50, 1000001), x -> x.level(-50, 0), 1);
    }

    private static void at(String name, Edges.Given given, int mm, int area, long content) {
        EDGES.leavesNoTrace("area " + name, given, x -> x.area(mm), area);
        EDGES.leavesNoTrace("content " + name, given, x -> x.content(mm), content);
    }

    /** "BAD: below the first one". */
    private static void belowTheFirst() {
        at("at the first", Edges::something, -10, 4, 0);
        at("below the first", Edges::something, -11, -1, -1);
        at("far below the first", Edges::something, Integer.MIN_VALUE, -1, -1);
    }

    /** "above the last one". */
    private static void aboveTheLast() {
        at("at the last", Edges::something, 10, 20, 13 * 50 + 29 * 50);
        at("above the last", Edges::something, 11, -1, -1);
        at("far above the last", Edges::something, Integer.MAX_VALUE, -1, -1);
    }

    /** "fewer than one". */
    private static void fewerThanOne() {
        at("of no level", Edges.NOTHING, 0, -1, -1);
        at("of a refused level", x -> x.level(0, -1), 0, -1, -1);
    }

    private static void justOne() {
        Edges.Given one = x -> x.level(-3, 8);
        at("of one level", one, -3, 8, 0);
        at("below one level", one, -4, -1, -1);
        at("above one level", one, -2, -1, -1);
        at("at 0 where no level is", one, 0, -1, -1);
    }

    /** At each level its own area, between on the line: 4 to 9 in 10 mm, 9 to 20 in 10 mm. */
    private static void atALevelAndBesideIt() {
        at("just below the second", Edges::something, -1, 8, (4 + 8) * 9 * 5);
        at("at the second", Edges::something, 0, 9, 650);
        at("just above the second", Edges::something, 1, 10, 650 + (9 + 10) * 5);
        at("just below the last", Edges::something, 9, 18, 650 + (9 + 18) * 9 * 5);
        at("just above the first", Edges::something, -9, 4, (4 + 4) * 5);
        // What was the last level is one between as soon as there is another.
        at("above the former last", Edges.and(x -> x.level(12, 21)), 11, 20, 2100 + (20 + 20) * 5);
        at("at the new last", Edges.and(x -> x.level(12, 21)), 12, 21, 2100 + (20 + 21) * 2 * 5);
    }

    /** "cut off to whole square metres": 0 to 3 in 4 mm, below 0 too. */
    private static void areaIsCutOff() {
        Edges.Given steep = x -> {
            x.level(-2, 0);
            x.level(2, 3);
        };
        int[] due = {0, 0, 1, 2, 3};
        for (int mm = -2; mm <= 2; mm++) {
            int level = mm;
            EDGES.taken("area at " + mm, steep, x -> x.area(level), due[mm + 2]);
        }
        Edges.Given line = x -> {
            x.level(0, 10);
            x.level(3, 11);
        };
        EDGES.taken("a third", line, x -> x.area(1), 10);
        EDGES.taken("two thirds", line, x -> x.area(2), 10);
        EDGES.taken("three thirds", line, x -> x.area(3), 11);
    }

    /** "half the sum of the lower level's area and that one by the distance, cut off, and all below". */
    private static void waterIsOfTheCutOffArea() {
        Edges.Given line = x -> {
            x.level(0, 10);
            x.level(3, 11);
            x.level(4, 12);
        };
        EDGES.taken("of 10 and 10", line, x -> x.content(1), 100);
        EDGES.taken("of 10 and 10, twice", line, x -> x.content(2), 200);
        // Half of 21 by 3 is 31 and a half square metres by a mm: 315 tenths of a litre.
        EDGES.taken("of 10 and 11", line, x -> x.content(3), 315);
        EDGES.taken("and all below", line, x -> x.content(4), 315 + 115);
        EDGES.taken("half a square metre", x -> {
            x.level(0, 0);
            x.level(1, 1);
        }, x -> x.content(1), 5);
    }

    private static void fills(String name, Edges.Given given, long water, int due) {
        EDGES.leavesNoTrace("fill " + name, given, x -> x.fill(water), due);
    }

    /** "some water (not below 0)": nothing is some. */
    private static void waterOfNothing() {
        fills("with nothing", Edges::something, 0, -10);
        fills("one level with nothing", x -> x.level(-3, 8), 0, -3);
        fills("where no area is", x -> {
            x.level(-3, 0);
            x.level(8, 0);
        }, 0, 8);
        fills("where no area is below", x -> {
            x.level(-3, 0);
            x.level(8, 0);
            x.level(9, 1);
        }, 0, 8);
        fills("where areas are cut off to none", x -> {
            x.level(0, 0);
            x.level(10, 1);
        }, 0, 9);
    }

    /** "less than 0". */
    private static void lessThanNothing() {
        fills("with less than nothing", Edges::something, -1, NO_LEVEL);
        fills("with far less than nothing", Edges::something, Long.MIN_VALUE, NO_LEVEL);
        fills("one level with less than nothing", x -> x.level(-3, 8), -1, NO_LEVEL);
    }

    /** "that much does not fit (the content of the last level is less)": it is 2,100. */
    private static void thatMuchDoesNotFit() {
        fills("to the last", Edges::something, 2100, 10);
        fills("above the last", Edges::something, 2101, NO_LEVEL);
        fills("far above the last", Edges::something, Long.MAX_VALUE, NO_LEVEL);
        fills("one level above it", x -> x.level(-3, 8), 1, NO_LEVEL);
        fills("no area with something", x -> {
            x.level(-3, 0);
            x.level(8, 0);
        }, 1, NO_LEVEL);
        // More than 32 bits must not look as if it fitted.
        fills("2^32 and a little", Edges::something, (1L << 32) + 650, NO_LEVEL);
    }

    /** "- 1,000,000: no level". */
    private static void noLevel() {
        fills("of no level with nothing", Edges.NOTHING, 0, NO_LEVEL);
        fills("of no level with something", Edges.NOTHING, 1, NO_LEVEL);
        fills("of a refused level", x -> x.level(0, -1), 0, NO_LEVEL);
    }

    /** "The greatest whole level up to which the content is not above some water". */
    private static void greatestLevel() {
        fills("to the second", Edges::something, 650, 0);
        fills("to just below the second", Edges::something, 649, -1);
        fills("to just above the second", Edges::something, 745, 1);
        fills("to not yet above the second", Edges::something, 744, 0);
        fills("to the first mm", Edges::something, 40, -9);
        fills("to not yet the first mm", Edges::something, 39, -10);
        fills("to just below the last", Edges::something, 2099, 9);
    }

    private static void greatestNumbers() {
        Edges.Given box = x -> {
            x.level(-100000, 1000000);
            x.level(100000, 1000000);
        };
        at("of the greatest", box, 100000, 1000000, 2000000000000L);
        at("of the greatest, a mm below", box, 99999, 1000000, 1999990000000L);
        at("of the greatest, at its lowest", box, -100000, 1000000, 0);
        at("below the greatest", box, -100001, -1, -1);
        at("above the greatest", box, 100001, -1, -1);
        fills("the greatest", box, 2000000000000L, 100000);
        fills("the greatest but for one", box, 1999999999999L, 99999);
        fills("the greatest and one", box, 2000000000001L, NO_LEVEL);
        fills("the greatest a mm high", box, 10000000, -99999);
        fills("the greatest not a mm high", box, 9999999, -100000);
        Edges.Given cone = x -> {
            x.level(-100000, 0);
            x.level(100000, 1000000);
        };
        // 199,999 mm of 200,000: beyond 32 bits before it is divided.
        at("of the cone", cone, 99999, 999995, 999995L * 199999 * 5);
        fills("the cone", cone, 1000000000000L, 100000);
        fills("the cone but for one", cone, 999999999999L, 99999);
    }
}
