/** Promises 1 and 21, how long an object is used, and that calls that only ask change nothing. */
public final class ObjectEdgesTest {
    private static final Check CHECK = new Check("ObjectEdgesTest");
    private static final Edges EDGES = new Edges(CHECK);

    public static void main(String[] args) {
        nothingIsThere();
        numbersOfCount();
        countsFromNothingToAll();
        allAtTheirMostInOne();
        asksLeaveNoTrace();
        lastOf512Calls();
        objectsAreApart();
        CHECK.finish();
    }

    /** "No rains, ponds, culverts, states, days": no way and no signs either. */
    private static void nothingIsThere() {
        for (int what = 0; what <= 6; what++) {
            int asked = what;
            EDGES.leavesNoTrace("new count " + what, Edges.NOTHING, x -> x.count(asked), 0);
        }
        EDGES.refused("new volume", Edges.NOTHING, x -> x.volume(1, 0, 0));
        EDGES.refused("new volume of 0 years", Edges.NOTHING, x -> x.volume(0, 0, 0));
        EDGES.refused("new by", Edges.NOTHING, x -> x.by(1, 0, 0));
        EDGES.refused("new by of 0 years", Edges.NOTHING, x -> x.by(0, 0, 0));
        EDGES.refused("new outflow", Edges.NOTHING, x -> x.outflow(1, 0, 0));
        EDGES.refused("new outflow of 0 years", Edges.NOTHING, x -> x.outflow(0, 0, 0));
        EDGES.refused("new area", Edges.NOTHING, x -> x.area(0));
        EDGES.refused("new content", Edges.NOTHING, x -> x.content(0));
        EDGES.leavesNoTrace("new fill", Edges.NOTHING, x -> x.fill(0), -1000000);
        EDGES.refused("new states", Edges.NOTHING, BasinSizes::states);
        EDGES.refused("new state", Edges.NOTHING, x -> x.state(0, 0, 0, 0));
        EDGES.refused("new head", Edges.NOTHING, x -> x.head(0, 0, 0, 0));
        EDGES.leavesNoTrace("new run", Edges.NOTHING, x -> x.run(0, 0), 0);
        EDGES.refused("new behind", Edges.NOTHING, x -> x.behind(0, 0));
        EDGES.leavesNoTrace("new room", Edges.NOTHING, x -> x.room(0, 0), 0);
        EDGES.refused("new stops", Edges.NOTHING, BasinSizes::stops);
    }

    /** "BAD: another number". */
    private static void numbersOfCount() {
        long[] due = {3, 3, 2, 2, 2, 3, 5};
        for (int what = 0; what <= 6; what++) {
            int asked = what;
            EDGES.leavesNoTrace("count " + what, Edges::something, x -> x.count(asked), due[what]);
        }
        for (int what : new int[] {-1, 7, 8, 256, Integer.MIN_VALUE, Integer.MAX_VALUE}) {
            EDGES.refused("count " + what, Edges::something, x -> x.count(what));
        }
    }

    /** Each count behind none, one, all that there may be, and one too many. */
    private static void countsFromNothingToAll() {
        counts("rains", 0, 40, (x, i) -> x.rain(1 + i % 3, 1 + i, 1 + i));
        counts("levels", 1, 20, (x, i) -> x.level(i, i));
        counts("culverts", 2, 8, (x, i) -> x.culvert(1, 1, 1, 1));
        counts("days", 4, 400, (x, i) -> x.day(i));
        counts("places", 5, 50, (x, i) -> x.way(i));
        counts("signs", 6, 300, (x, i) -> x.unit('h'));
        for (int states = 1; states <= 6; states++) {
            BasinSizes x = new BasinSizes();
            StringBuilder text = new StringBuilder("0=0");
            for (int i = 1; i < states; i++) {
                text.append(";0=0&0=0");
            }
            Check.tell(x, text.toString());
            CHECK.due("count of " + states + " states", x.count(3), states);
        }
    }

    private interface OneMore {
        void to(BasinSizes x, int i);
    }

    private static void counts(String name, int what, int most, OneMore oneMore) {
        BasinSizes x = new BasinSizes();
        for (int i = 0; i < most; i++) {
            oneMore.to(x, i);
            if (i == 0 || i >= most - 2) {
                CHECK.due("count of " + (i + 1) + " " + name, x.count(what), i + 1);
            }
        }
        oneMore.to(x, most);
        CHECK.due("count of one too many " + name, x.count(what), most);
        for (int other = 0; other <= 6; other++) {
            if (other != what) {
                CHECK.due("count " + other + " beside " + name, x.count(other), 0);
            }
        }
    }

    /** One object with all that 512 calls let it hold: 40, 20, 8, 6, 50, 300, and 48 of 400 days; none takes from another. */
    private static void allAtTheirMostInOne() {
        BasinSizes x = new BasinSizes();
        Check.tell(x, "h=0;h=1;h=2;h=3;h=4;h=t");
        for (int i = 1; i <= 40; i++) {
            CHECK.due("rain " + i, x.rain(1000, 100 + i, 100 + i), i);
        }
        for (int i = 1; i <= 20; i++) {
            CHECK.due("level " + i, x.level(i, i), i);
        }
        for (int i = 0; i < 8; i++) {
            CHECK.due("culvert " + i, x.culvert(1 + i, 1, 1, 0), i);
        }
        for (int i = 1; i <= 50; i++) {
            CHECK.due("place " + i, x.way(i < 50 ? -i : 0), i);
        }
        for (int i = 1; i <= 48; i++) {
            CHECK.due("day " + i, x.day(10), i);
        }
        for (int i = 0; i < 300; i++) {
            CHECK.due("sign " + i, x.unit(i < 297 ? ' ' : "w=8".charAt(i - 297)), true);
        }
        // 490 calls so far.
        long[] due = {40, 20, 8, 6, 48, 50, 300};
        for (int what = 0; what <= 6; what++) {
            CHECK.due("count " + what + " of all", x.count(what), due[what]);
        }
        CHECK.due("volume of all", x.volume(1000, 100, 0), 1400);
        CHECK.due("by of all", x.by(1000, 100, 0), 140);
        CHECK.due("outflow of all", x.outflow(1000, 1000, 0), 2);
        CHECK.due("content of all", x.content(20), 5 * (20 * 20 - 1));
        CHECK.due("fill of all", x.fill(5 * (20 * 20 - 1)), 20);
        CHECK.due("head of all", x.head(7, 5, 5, 0), 5);
        CHECK.due("stops of all", x.stops(), 49);
        CHECK.due("room of all", x.room(4, 47), 6);
        CHECK.due("run of all", x.run(4, 0), 48);
        CHECK.due("behind all", x.behind(47, 3), 6 * 48);
        CHECK.due("states of all", x.states(), 1);
        CHECK.due("state of all", x.state(7, 0, 0, 0), 0);
        CHECK.due("state of all but the last", x.state(6, 0, 0, 0), -1);
        CHECK.due("states behind all", x.count(3), 1);
    }

    /** "Nothing is promised beyond the answers and state changes described above". */
    private static void asksLeaveNoTrace() {
        EDGES.leavesNoTrace("volume", Edges::something, x -> x.volume(1, 1000, 1), 130000 - 1200);
        EDGES.leavesNoTrace("by", Edges::something, x -> x.by(1, 1000, 1), 20);
        EDGES.leavesNoTrace("outflow", Edges::something, x -> x.outflow(1, 1000, 0), 117);
        EDGES.leavesNoTrace("area", Edges::something, x -> x.area(5), 14);
        EDGES.leavesNoTrace("content", Edges::something, x -> x.content(5), 650 + 23 * 25);
        EDGES.leavesNoTrace("fill", Edges::something, x -> x.fill(1225), 5);
        EDGES.leavesNoTrace("state", Edges::something, x -> x.state(0, 799, 799, 799), 0);
        EDGES.leavesNoTrace("state of another", Edges::something, x -> x.state(1, 9, 9, 8), 1);
        EDGES.leavesNoTrace("head", Edges::something, x -> x.head(0, 1, 900, 77), 78);
        EDGES.leavesNoTrace("behind", Edges::something, x -> x.behind(1, 3), 200);
        EDGES.leavesNoTrace("stops", Edges::something, BasinSizes::stops, 2);
        EDGES.leavesNoTrace("a run like the last", Edges::something, x -> x.run(600, 700), 1);
    }

    /** "An object is used for at most 512 calls after it has been made": the last of them is answered. */
    private static void lastOf512Calls() {
        BasinSizes x = new BasinSizes();
        for (int call = 1; call <= 400; call++) {
            x.day(call);
        }
        for (int call = 401; call <= 511; call++) {
            CHECK.due("call " + call, x.run(0, call), 400 - firstAbove(call) + 1);
        }
        CHECK.due("call 512", x.behind(399, 0), 511);

        BasinSizes y = new BasinSizes();
        for (int call = 1; call <= 508; call++) {
            y.unit(call % 300 == 0 ? 'x' : ' ');
        }
        CHECK.due("call 509", y.states(), -300);
        y.unit('h');
        y.unit('<');
        CHECK.due("call 512", y.states(), -3);
    }

    /** The first day from 1 by which more than a room has come, where each day brings its number. */
    private static int firstAbove(int room) {
        int sum = 0;
        int day = 0;
        while (sum <= room) {
            day++;
            sum += day;
        }
        return day;
    }

    private static void objectsAreApart() {
        BasinSizes x = new BasinSizes();
        BasinSizes y = new BasinSizes();
        Edges.something(x);
        CHECK.due("nothing of another", Edges.traces(y).equals(Edges.traces(new BasinSizes())), true);
        BasinSizes z = new BasinSizes();
        Edges.something(z);
        CHECK.due("the like of another", Edges.traces(x).equals(Edges.traces(z)), true);
    }
}
