/** Promise 1: a new object; promise 21: count. */
public final class NewObjectTest {
    private static final Check CHECK = new Check("NewObjectTest");

    public static void main(String[] args) {
        nothingIsThere();
        countFollows();
        objectsAreApart();
        CHECK.finish();
    }

    private static void nothingIsThere() {
        BasinSizes x = new BasinSizes();
        for (int what = 0; what <= 6; what++) {
            CHECK.due("new count(" + what + ")", x.count(what), 0);
        }
        CHECK.due("volume", x.volume(1, 1, 1), -1);
        CHECK.due("by", x.by(1, 1, 1), -1);
        CHECK.due("outflow", x.outflow(1, 1, 1), -1);
        // A row that was never filled must not answer as a rain of 0 years.
        CHECK.due("volume of 0 years", x.volume(0, 1, 1), -1);
        CHECK.due("outflow of 0 years", x.outflow(0, 1, 1), -1);
        CHECK.due("area", x.area(0), -1);
        CHECK.due("content", x.content(0), -1);
        CHECK.due("fill", x.fill(0), -1_000_000);
        CHECK.due("states", x.states(), -1);
        CHECK.due("state", x.state(0, 0, 0, 0), -1);
        CHECK.due("head", x.head(0, 0, 0, 0), -1);
        CHECK.due("behind", x.behind(0, 0), -1);
        CHECK.due("room", x.room(0, 0), 0);
        CHECK.due("run", x.run(0, 0), 0);
        CHECK.due("behind no day", x.behind(0, 0), -1);
        CHECK.due("stops", x.stops(), -1);
        CHECK.due("culvert is the first", x.culvert(1, 1, 1, 0), 0);
        CHECK.due("state without states", x.state(0, 0, 0, 0), -1);
        CHECK.due("head without states", x.head(0, 0, 0, 0), -1);
    }

    private static void countFollows() {
        BasinSizes x = new BasinSizes();
        for (int i = 1; i <= 7; i++) {
            x.rain(i, 1, 1);
            if (i <= 6) x.level(i, 1);
            if (i <= 5) x.culvert(1, 1, 1, 1);
            if (i <= 4) x.day(1);
            if (i <= 3) x.way(1);
        }
        CHECK.due("two states", Check.tell(x, "h<1;h>1"), 2);
        CHECK.due("a sign", x.unit('h'), true);
        long[] due = {7, 6, 5, 2, 4, 3, 1};
        for (int what = 0; what < due.length; what++) {
            CHECK.due("count(" + what + ")", x.count(what), due[what]);
        }
        for (int what : new int[] {-1, 7, 8, Integer.MIN_VALUE, Integer.MAX_VALUE}) {
            CHECK.due("count(" + what + ")", x.count(what), -1);
        }
    }

    private static void objectsAreApart() {
        BasinSizes x = new BasinSizes();
        BasinSizes y = new BasinSizes();
        x.rain(1, 1, 1);
        x.unit('h');
        x.day(1);
        CHECK.due("rains of another", y.count(0), 0);
        CHECK.due("signs of another", y.count(6), 0);
        CHECK.due("days of another", y.count(4), 0);
    }
}
