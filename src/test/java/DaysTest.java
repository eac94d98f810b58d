/** Promises 15 to 18: day, run, behind, room. */
public final class DaysTest {
    private static final Check CHECK = new Check("DaysTest");
    private static final long TERA = 1_000_000_000_000L;
    private static final long PETA = 1_000_000_000_000_000L;

    public static void main(String[] args) {
        rangesOfADay();
        fourHundredDays();
        aRun();
        rangesOfARun();
        rangesOfBehind();
        whatEndsARun();
        rooms();
        rangesOfARoom();
        CHECK.finish();
    }

    private static void rangesOfADay() {
        BasinSizes x = new BasinSizes();
        for (long water : new long[] {-1, TERA + 1, Long.MIN_VALUE, Long.MAX_VALUE}) {
            CHECK.due("day " + water, x.day(water), -1);
        }
        CHECK.due("none was taken", x.count(4), 0);
        CHECK.due("dry", x.day(0), 1);
        CHECK.due("wettest", x.day(TERA), 2);
    }

    private static void fourHundredDays() {
        BasinSizes x = new BasinSizes();
        for (int i = 1; i <= 400; i++) {
            CHECK.due("day " + i, x.day(TERA), i);
        }
        CHECK.due("one too many", x.day(1), -1);
        CHECK.due("four hundred", x.count(4), 400);
        CHECK.due("all overflow", x.run(0, 0), 400);
        CHECK.due("all of it", x.behind(399, 3), 400 * TERA);
        CHECK.due("a refused day leaves the run", x.day(1), -1);
        CHECK.due("still there", x.behind(399, 2), TERA);
        CHECK.due("all room", x.room(0, 0), 400 * TERA);
        CHECK.due("all room but a day's", x.room(0, 1), 399 * TERA);
        CHECK.due("no room", x.room(0, 400), 0);
        CHECK.due("a little room", x.room(0, 399), TERA);
        CHECK.due("less by the outflow", x.room(1, 0), 400 * (TERA - 1));
        CHECK.due("none overflows", x.run(0, 400 * TERA), 0);
        CHECK.due("all is there", x.behind(399, 0), 400 * TERA);
        CHECK.due("one overflows", x.run(0, 400 * TERA - 1), 1);
    }

    private static void behind(BasinSizes x, int day, long... due) {
        for (int what = 0; what < due.length; what++) {
            CHECK.due("behind " + day + " " + what, x.behind(day, what), due[what]);
        }
    }

    private static void aRun() {
        BasinSizes x = new BasinSizes();
        for (long water : new long[] {500, 1500, 2500, 0, 0, 700}) {
            x.day(water);
        }
        CHECK.due("run", x.run(600, 700), 2);
        behind(x, 0, 0, 500, 0, 0);
        behind(x, 1, 700, 600, 200, 200);
        behind(x, 2, 700, 600, 1900, 2100);
        behind(x, 3, 100, 600, 0, 2100);
        behind(x, 4, 0, 100, 0, 2100);
        behind(x, 5, 100, 600, 0, 2100);
        CHECK.due("the next begins empty", x.run(500, 1000), 1);
        behind(x, 0, 0, 500, 0, 0);
        behind(x, 1, 1000, 500, 0, 0);
        behind(x, 2, 1000, 500, 2000, 2000);
        behind(x, 5, 200, 500, 0, 2000);
        CHECK.due("no outflow", x.run(0, 2000), 2);
        behind(x, 1, 2000, 0, 0, 0);
        behind(x, 2, 2000, 0, 2500, 2500);
        behind(x, 3, 2000, 0, 0, 2500);
        behind(x, 5, 2000, 0, 700, 3200);
        CHECK.due("no room", x.run(600, 0), 3);
        behind(x, 5, 0, 600, 100, 900 + 1900 + 100);
        CHECK.due("the outflow takes all", x.run(2500, 0), 0);
        behind(x, 2, 0, 2500, 0, 0);
    }

    private static void rangesOfARun() {
        BasinSizes x = new BasinSizes();
        CHECK.due("no days", x.run(1, 1), 0);
        x.day(7);
        CHECK.due("run", x.run(1, 2), 1);
        long[][] wrong = {{-1, 0}, {0, -1}, {PETA + 1, 0}, {0, PETA + 1}, {Long.MIN_VALUE, 0}, {0, Long.MIN_VALUE},
            {Long.MAX_VALUE, 0}, {0, Long.MAX_VALUE}};
        for (long[] w : wrong) {
            CHECK.due("run " + w[0] + " " + w[1], x.run(w[0], w[1]), -1);
        }
        behind(x, 0, 2, 1, 4, 4);
        CHECK.due("greatest", x.run(PETA, PETA), 0);
        behind(x, 0, 0, 7, 0, 0);
        CHECK.due("least", x.run(0, 0), 1);
        behind(x, 0, 0, 0, 7, 7);
    }

    private static void rangesOfBehind() {
        BasinSizes x = new BasinSizes();
        x.day(1);
        x.day(2);
        CHECK.due("no run", x.behind(0, 0), -1);
        x.run(0, 0);
        for (int day : new int[] {-1, 2, 400, Integer.MIN_VALUE, Integer.MAX_VALUE}) {
            behind(x, day, -1, -1, -1, -1);
        }
        for (int what : new int[] {-1, 4, Integer.MIN_VALUE, Integer.MAX_VALUE}) {
            CHECK.due("what " + what, x.behind(0, what), -1);
        }
        CHECK.due("the last day", x.behind(1, 3), 3);
    }

    private static void whatEndsARun() {
        BasinSizes x = new BasinSizes();
        x.day(5);
        x.run(1, 2);
        CHECK.due("a wrong day does not", x.day(-1), -1);
        CHECK.due("there", x.behind(0, 0), 2);
        CHECK.due("wrong numbers for a room do not", x.room(0, 401), -1);
        CHECK.due("nor these", x.room(-1, 0), -1);
        CHECK.due("still there", x.behind(0, 2), 2);
        CHECK.due("a room does", x.room(1, 0), 4);
        behind(x, 0, -1, -1, -1, -1);
        x.run(1, 2);
        CHECK.due("there again", x.behind(0, 0), 2);
        CHECK.due("a day does", x.day(0), 2);
        behind(x, 0, -1, -1, -1, -1);
        behind(x, 1, -1, -1, -1, -1);
        x.run(1, 2);
        behind(x, 1, 1, 1, 0, 2);
    }

    private static void rooms() {
        BasinSizes x = new BasinSizes();
        CHECK.due("no days", x.room(0, 0), 0);
        for (long water : new long[] {500, 1500, 2500}) {
            x.day(water);
        }
        CHECK.due("none may", x.room(600, 0), 2800);
        CHECK.due("one may", x.room(600, 1), 900);
        CHECK.due("two may", x.room(600, 2), 0);
        CHECK.due("two may, less outflow", x.room(400, 2), 100);
        CHECK.due("three may", x.room(0, 3), 0);
        CHECK.due("no outflow", x.room(0, 0), 4500);
        CHECK.due("all goes out", x.room(2500, 0), 0);
        CHECK.due("all but one goes out", x.room(2499, 0), 1);
        for (int days = 0; days <= 3; days++) {
            for (long outflow = 0; outflow <= 2600; outflow += 100) {
                long least = x.room(outflow, days);
                CHECK.due("enough at " + outflow + " for " + days, x.run(outflow, least) <= days, true);
                if (least > 0) {
                    CHECK.due("no less at " + outflow + " for " + days, x.run(outflow, least - 1) > days, true);
                }
            }
        }
    }

    private static void rangesOfARoom() {
        BasinSizes x = new BasinSizes();
        x.day(5);
        CHECK.due("days below 0", x.room(0, -1), -1);
        CHECK.due("days above 400", x.room(0, 401), -1);
        CHECK.due("least days of all", x.room(0, Integer.MIN_VALUE), -1);
        CHECK.due("greatest days of all", x.room(0, Integer.MAX_VALUE), -1);
        CHECK.due("outflow below 0", x.room(-1, 0), -1);
        CHECK.due("outflow too great", x.room(PETA + 1, 0), -1);
        CHECK.due("least outflow of all", x.room(Long.MIN_VALUE, 0), -1);
        CHECK.due("greatest outflow of all", x.room(Long.MAX_VALUE, 0), -1);
        CHECK.due("greatest numbers", x.room(PETA, 400), 0);
        CHECK.due("greatest outflow", x.room(PETA, 0), 0);
        CHECK.due("least numbers", x.room(0, 0), 5);
    }
}
