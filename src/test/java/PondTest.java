/** Promises 6 to 9: level, area, content, fill. */
public final class PondTest {
    private static final Check CHECK = new Check("PondTest");

    public static void main(String[] args) {
        rangesOfALevel();
        levelsRise();
        twentyLevels();
        areasAndContents();
        aPondOfOneLevel();
        cutOff();
        fills();
        greatestPond();
        CHECK.finish();
    }

    private static void rangesOfALevel() {
        BasinSizes x = new BasinSizes();
        int[][] wrong = {{-100001, 1}, {100001, 1}, {0, -1}, {0, 1000001}, {Integer.MIN_VALUE, 1},
            {Integer.MAX_VALUE, 1}, {0, Integer.MIN_VALUE}, {0, Integer.MAX_VALUE}};
        for (int[] w : wrong) {
            CHECK.due("level " + w[0] + " " + w[1], x.level(w[0], w[1]), -1);
        }
        CHECK.due("none was taken", x.count(1), 0);
        CHECK.due("lowest", x.level(-100000, 0), 1);
        CHECK.due("highest", x.level(100000, 1000000), 2);
    }

    private static void levelsRise() {
        BasinSizes x = new BasinSizes();
        CHECK.due("first", x.level(-10, 50), 1);
        CHECK.due("like level", x.level(-10, 60), -1);
        CHECK.due("lower level", x.level(-11, 60), -1);
        CHECK.due("area falls", x.level(-9, 49), -1);
        CHECK.due("like area", x.level(-9, 50), 2);
        CHECK.due("both rise", x.level(0, 51), 3);
        CHECK.due("behind the last, not the first", x.level(-5, 60), -1);
        CHECK.due("area below the last, not the first", x.level(1, 50), -1);
        CHECK.due("three", x.count(1), 3);
    }

    private static void twentyLevels() {
        BasinSizes x = new BasinSizes();
        for (int i = 1; i <= 20; i++) {
            CHECK.due("level " + i, x.level(i * 10, i), i);
        }
        CHECK.due("one too many", x.level(1000, 1000), -1);
        CHECK.due("twenty", x.count(1), 20);
        CHECK.due("the last one counts", x.area(200), 20);
        long content = 0;
        for (int i = 1; i <= 20; i++) {
            CHECK.due("content " + i, x.content(i * 10), content);
            content += (i + i + 1) * 10L * 5;
        }
    }

    private static void areasAndContents() {
        BasinSizes x = new BasinSizes();
        x.level(0, 100);
        x.level(500, 150);
        x.level(1200, 400);
        CHECK.due("area first", x.area(0), 100);
        CHECK.due("area between", x.area(250), 125);
        CHECK.due("area cut off", x.area(499), 149);
        CHECK.due("area of the second", x.area(500), 150);
        CHECK.due("area just above", x.area(502), 150);
        CHECK.due("area above", x.area(503), 151);
        CHECK.due("area last", x.area(1200), 400);
        CHECK.due("content first", x.content(0), 0);
        CHECK.due("content between", x.content(250), (100 + 125) * 250 * 5);
        CHECK.due("content of the second", x.content(500), 625000);
        CHECK.due("content above", x.content(503), 625000 + (150 + 151) * 3 * 5);
        CHECK.due("content last", x.content(1200), 2550000);
        for (int mm : new int[] {-1, 1201, Integer.MIN_VALUE, Integer.MAX_VALUE}) {
            CHECK.due("area " + mm, x.area(mm), -1);
            CHECK.due("content " + mm, x.content(mm), -1);
        }
        x.level(1300, 400);
        CHECK.due("a level more", x.area(1201), 400);
        CHECK.due("content of a level more", x.content(1201), 2550000 + 4000);
    }

    private static void aPondOfOneLevel() {
        BasinSizes x = new BasinSizes();
        x.level(-7, 9);
        CHECK.due("area", x.area(-7), 9);
        CHECK.due("content", x.content(-7), 0);
        CHECK.due("below", x.area(-8), -1);
        CHECK.due("above", x.content(-6), -1);
        CHECK.due("nothing fits", x.fill(0), -7);
        CHECK.due("something does not", x.fill(1), -1000000);
        CHECK.due("less than nothing", x.fill(-1), -1000000);
    }

    private static void cutOff() {
        BasinSizes x = new BasinSizes();
        x.level(-3, 1);
        x.level(0, 3);
        // The line is at 1.67 and 2.33: both sums are made with what is cut off.
        CHECK.due("area cut off to 1", x.area(-2), 1);
        CHECK.due("area cut off to 2", x.area(-1), 2);
        CHECK.due("content with 1", x.content(-2), 10);
        CHECK.due("content with 2", x.content(-1), 30);
        CHECK.due("content at the level", x.content(0), 60);
    }

    private static void fills() {
        BasinSizes x = new BasinSizes();
        x.level(0, 100);
        x.level(500, 150);
        x.level(1200, 400);
        CHECK.due("nothing", x.fill(0), 0);
        CHECK.due("less than a mm", x.fill(999), 0);
        CHECK.due("a mm", x.fill(1000), 1);
        CHECK.due("all but one", x.fill(624999), 499);
        CHECK.due("up to the second", x.fill(625000), 500);
        CHECK.due("all but one of all", x.fill(2549999), 1199);
        CHECK.due("all", x.fill(2550000), 1200);
        CHECK.due("more than all", x.fill(2550001), -1000000);
        CHECK.due("much more", x.fill(Long.MAX_VALUE), -1000000);
        CHECK.due("less than nothing", x.fill(-1), -1000000);
        CHECK.due("much less", x.fill(Long.MIN_VALUE), -1000000);
        for (int mm = 0; mm <= 1200; mm += 8) {
            CHECK.due("fill of content " + mm, x.fill(x.content(mm)), mm);
        }

        BasinSizes flat = new BasinSizes();
        flat.level(-50, 0);
        flat.level(-20, 0);
        CHECK.due("the greatest of many without area", flat.fill(0), -20);
        CHECK.due("nothing more", flat.fill(1), -1000000);
        flat.level(10, 1);
        // The area is cut off to 0 up to the last mm.
        CHECK.due("cut off areas hold nothing", flat.fill(149), 9);
        CHECK.due("but the last", flat.fill(150), 10);
    }

    private static void greatestPond() {
        BasinSizes x = new BasinSizes();
        x.level(-100000, 1000000);
        x.level(100000, 1000000);
        CHECK.due("area", x.area(12345), 1000000);
        CHECK.due("content", x.content(100000), 2000000000000L);
        CHECK.due("content between", x.content(99999), 1999990000000L);
        CHECK.due("fill", x.fill(2000000000000L), 100000);
        CHECK.due("fill all but one", x.fill(1999999999999L), 99999);
        CHECK.due("fill more", x.fill(2000000000001L), -1000000);
        BasinSizes y = new BasinSizes();
        y.level(-100000, 0);
        y.level(100000, 1000000);
        CHECK.due("slope", y.area(99999), 999995);
        CHECK.due("slope below 0", y.area(-1), 499995);
        CHECK.due("half of it", y.content(100000), 1000000000000L);
        CHECK.due("a quarter", y.content(0), 250000000000L);
        CHECK.due("fill a quarter", y.fill(250000000000L), 0);
    }
}
