/** Promises 2 to 5: rain, volume, by, outflow. */
public final class RainTest {
    private static final Check CHECK = new Check("RainTest");

    public static void main(String[] args) {
        rangesOfARain();
        rainsRiseAndDoNotGetStronger();
        yearsAreApart();
        fortyInAll();
        volumes();
        theFirstOfSeveral();
        lessThanNothing();
        rangesOfABasin();
        outflows();
        rangesOfAnOutflow();
        CHECK.finish();
    }

    private static void rangesOfARain() {
        BasinSizes x = new BasinSizes();
        int[][] wrong = {{0, 1, 1}, {-1, 1, 1}, {1001, 1, 1}, {1, 0, 1}, {1, -5, 1}, {1, 10001, 1}, {1, 1, 0},
            {1, 1, -1}, {1, 1, 100001}, {Integer.MIN_VALUE, 1, 1}, {1, Integer.MAX_VALUE, 1},
            {1, 1, Integer.MAX_VALUE}};
        for (int[] w : wrong) {
            CHECK.due("rain " + w[0] + " " + w[1] + " " + w[2], x.rain(w[0], w[1], w[2]), -1);
        }
        CHECK.due("none was taken", x.count(0), 0);
        CHECK.due("least rain", x.rain(1, 1, 1), 1);
        CHECK.due("greatest rain", x.rain(1000, 10000, 100000), 1);
        CHECK.due("short and strong", x.rain(2, 1, 100000), 1);
        CHECK.due("long and weak", x.rain(3, 10000, 1), 1);
        CHECK.due("four", x.count(0), 4);
    }

    private static void rainsRiseAndDoNotGetStronger() {
        BasinSizes x = new BasinSizes();
        CHECK.due("first", x.rain(10, 30, 900), 1);
        CHECK.due("like minutes", x.rain(10, 30, 901), -1);
        CHECK.due("fewer minutes", x.rain(10, 29, 870), -1);
        CHECK.due("like depth", x.rain(10, 31, 900), -1);
        CHECK.due("less depth", x.rain(10, 31, 899), -1);
        CHECK.due("stronger by a little", x.rain(10, 31, 931), -1);
        CHECK.due("as strong", x.rain(10, 31, 930), 2);
        CHECK.due("weaker", x.rain(10, 32, 931), 3);
        // 132 minutes as strong as 931 by 32 are 3,840.4; in whole numbers all of these are 29 a minute.
        CHECK.due("stronger behind the point", x.rain(10, 132, 3841), -1);
        CHECK.due("weaker behind the point", x.rain(10, 132, 3840), 4);
        CHECK.due("a refused one does not count", x.count(0), 4);

        BasinSizes y = new BasinSizes();
        CHECK.due("strong", y.rain(1, 9999, 99999), 1);
        CHECK.due("crosswise products need room", y.rain(1, 10000, 100000), 2);
        BasinSizes z = new BasinSizes();
        CHECK.due("weak", z.rain(1, 1, 9), 1);
        CHECK.due("as weak at the end", z.rain(1, 10000, 90001), -1);
        CHECK.due("as weak at the very end", z.rain(1, 10000, 90000), 2);
    }

    private static void yearsAreApart() {
        BasinSizes x = new BasinSizes();
        CHECK.due("5", x.rain(5, 60, 3000), 1);
        CHECK.due("10", x.rain(10, 10, 1000), 1);
        CHECK.due("10 again", x.rain(10, 20, 1500), 2);
        CHECK.due("5 behind its own last", x.rain(5, 50, 3100), -1);
        CHECK.due("5 again", x.rain(5, 70, 3100), 2);
        CHECK.due("10 a third time", x.rain(10, 30, 1600), 3);
        CHECK.due("all", x.count(0), 5);
        CHECK.due("volume of 5", x.volume(5, 10, 0), 3100);
        CHECK.due("volume of 10", x.volume(10, 10, 0), 1600);
        CHECK.due("by of 5", x.by(5, 10, 0), 70);
    }

    private static void fortyInAll() {
        BasinSizes x = new BasinSizes();
        for (int i = 1; i <= 40; i++) {
            CHECK.due("rain " + i, x.rain(1 + i % 2, i, i), (i + 1) / 2);
        }
        CHECK.due("one too many", x.rain(1, 41, 41), -1);
        CHECK.due("one too many of other years", x.rain(3, 1, 1), -1);
        CHECK.due("forty", x.count(0), 40);
        CHECK.due("the last one counts", x.by(1, 1000, 0), 40);
    }

    private static void volumes() {
        BasinSizes x = new BasinSizes();
        x.rain(5, 10, 1200);
        x.rain(5, 20, 1800);
        x.rain(5, 60, 2400);
        CHECK.due("all of it", x.volume(5, 10000, 0), 2400000);
        CHECK.due("by the longest", x.by(5, 10000, 0), 60);
        CHECK.due("less the outflow", x.volume(5, 10000, 7), 2400000 - 7 * 60 * 60);
        CHECK.due("by the middle", x.by(5, 10000, 500), 20);
        CHECK.due("of the middle", x.volume(5, 10000, 500), 1800000 - 500 * 60 * 20);
        CHECK.due("by the shortest", x.by(5, 10000, 1500), 10);
        CHECK.due("of the shortest", x.volume(5, 10000, 1500), 1200000 - 1500 * 60 * 10);

        BasinSizes y = new BasinSizes();
        y.rain(1000, 10000, 99999);
        CHECK.due("cut off before the outflow goes", y.volume(1000, 9, 0), 89999);
        CHECK.due("beyond 32 bits", y.volume(1000, 1000000, 0), 9999900000L);
        CHECK.due("beyond 32 bits less outflow", y.volume(1000, 1000000, 10000), 9999900000L - 6000000000L);
        BasinSizes z = new BasinSizes();
        z.rain(1, 1, 19);
        CHECK.due("19 by 10", z.volume(1, 1, 0), 1);
        CHECK.due("171 by 10", z.volume(1, 9, 0), 17);
        CHECK.due("no area", z.volume(1, 0, 0), 0);
    }

    private static void theFirstOfSeveral() {
        BasinSizes x = new BasinSizes();
        x.rain(1, 10, 700);
        x.rain(1, 20, 1300);
        x.rain(1, 30, 1900);
        // At an outflow of 1 each of them needs 700 - 600, 1300 - 1200, 1900 - 1800.
        CHECK.due("all need alike", x.volume(1, 10, 1), 100);
        CHECK.due("the first of them", x.by(1, 10, 1), 10);
        CHECK.due("no area, no outflow", x.by(1, 0, 0), 10);
        BasinSizes y = new BasinSizes();
        y.rain(1, 10, 600);
        y.rain(1, 20, 1150);
        y.rain(1, 70, 3000);
        CHECK.due("the last needs most", y.by(1, 10, 0), 70);
        CHECK.due("the first needs most", y.by(1, 10, 1), 10);
    }

    private static void lessThanNothing() {
        BasinSizes x = new BasinSizes();
        x.rain(1, 10, 100);
        x.rain(1, 20, 190);
        CHECK.due("0 at least", x.volume(1, 10, 5), 0);
        CHECK.due("the least below 0", x.by(1, 10, 5), 10);
        x.rain(2, 10000, 1);
        CHECK.due("far below 0", x.volume(2, 0, 100000), 0);
        CHECK.due("far below 0, by", x.by(2, 0, 100000), 10000);
    }

    private static void rangesOfABasin() {
        BasinSizes x = new BasinSizes();
        x.rain(5, 10, 100);
        int[][] wrong = {{4, 1, 1}, {0, 1, 1}, {6, 1, 1}, {-5, 1, 1}, {5, -1, 1}, {5, 1000001, 1}, {5, 1, -1},
            {5, 1, 100001}, {5, Integer.MIN_VALUE, 1}, {5, 1, Integer.MAX_VALUE}, {Integer.MAX_VALUE, 1, 1}};
        for (int[] w : wrong) {
            String of = w[0] + " " + w[1] + " " + w[2];
            CHECK.due("volume " + of, x.volume(w[0], w[1], w[2]), -1);
            CHECK.due("by " + of, x.by(w[0], w[1], w[2]), -1);
        }
        CHECK.due("greatest numbers", x.volume(5, 1000000, 100000), 0);
        CHECK.due("greatest numbers, by", x.by(5, 1000000, 100000), 10);
        CHECK.due("least numbers", x.volume(5, 0, 0), 0);
        CHECK.due("least numbers, by", x.by(5, 0, 0), 10);
    }

    private static void outflows() {
        BasinSizes x = new BasinSizes();
        x.rain(5, 10, 1200);
        x.rain(5, 20, 1800);
        x.rain(5, 60, 2400);
        long[] rooms = {0, 1, 599, 600, 1000000, 1199999, 1200000, 1200001, 2399999, 2400000};
        for (long room : rooms) {
            int least = x.outflow(5, 10000, room);
            CHECK.due("enough for " + room, x.volume(5, 10000, least) <= room, true);
            if (least > 0) {
                CHECK.due("no less for " + room, x.volume(5, 10000, least - 1) > room, true);
            }
        }
        CHECK.due("none is needed", x.outflow(5, 10000, 2400000), 0);
        CHECK.due("one is needed", x.outflow(5, 10000, 2399999), 1);
        CHECK.due("no area", x.outflow(5, 0, 0), 0);

        BasinSizes y = new BasinSizes();
        y.rain(1, 1, 61);
        // 6,100,000 need 101,667 at a room of 0; 100,000 leave 100,000 behind.
        CHECK.due("just the greatest", y.outflow(1, 1000000, 100000), 100000);
        CHECK.due("more than the greatest", y.outflow(1, 1000000, 99999), -1);
        CHECK.due("far more than the greatest", y.outflow(1, 1000000, 0), -1);
    }

    private static void rangesOfAnOutflow() {
        BasinSizes x = new BasinSizes();
        x.rain(5, 10, 100);
        CHECK.due("no such years", x.outflow(6, 1, 1), -1);
        CHECK.due("years 0", x.outflow(0, 1, 1), -1);
        CHECK.due("area below 0", x.outflow(5, -1, 1), -1);
        CHECK.due("area too great", x.outflow(5, 1000001, 1), -1);
        CHECK.due("room below 0", x.outflow(5, 1, -1), -1);
        CHECK.due("least room of all", x.outflow(5, 1, Long.MIN_VALUE), -1);
        CHECK.due("room too great", x.outflow(5, 1, (1L << 50) + 1), -1);
        CHECK.due("greatest room of all", x.outflow(5, 1, Long.MAX_VALUE), -1);
        CHECK.due("greatest room", x.outflow(5, 1000000, 1L << 50), 0);
        CHECK.due("greatest area", x.outflow(5, 1000000, 0), 16667);
    }
}
