/** Promises 10, 13 and 14, at each edge that the document names: culvert, state, head. */
public final class CulvertEdgesTest {
    private static final Check CHECK = new Check("CulvertEdgesTest");
    private static final Edges EDGES = new Edges(CHECK);

    public static void main(String[] args) {
        widthOfACulvert();
        heightOfACulvert();
        lengthOfACulvert();
        fallOfACulvert();
        eightCulverts();
        greatestCulvertInATest();
        culvertOfAState();
        hOfAState();
        tOfAState();
        qOfAState();
        noStatesAtAll();
        none();
        firstOfSeveral();
        allTestsHold();
        allThirtyTestsHold();
        asksDoNotMix();
        belowAboveEqual();
        sumsIn64Bits();
        culvertOfAHead();
        stateOfAHead();
        tOfAHead();
        qOfAHead();
        leastHead();
        greatestHead();
        noHead();
        headOfAnEarlierState();
        headsAgreeWithStates();
        CHECK.finish();
    }

    private static void culvertTaken(int width, int height, int length, int fall) {
        String name = "culvert(" + width + ", " + height + ", " + length + ", " + fall + ")";
        EDGES.taken(name, Edges.NOTHING, x -> x.culvert(width, height, length, fall), 0);
        EDGES.taken(name, Edges::something, x -> x.culvert(width, height, length, fall), 2);
    }

    private static void culvertRefused(int width, int height, int length, int fall) {
        String name = "culvert(" + width + ", " + height + ", " + length + ", " + fall + ")";
        EDGES.refused(name, Edges.NOTHING, x -> x.culvert(width, height, length, fall));
        EDGES.refused(name, Edges::something, x -> x.culvert(width, height, length, fall));
    }

    /** "each 1 .. 10,000". */
    private static void widthOfACulvert() {
        culvertTaken(1, 50, 50, 50);
        culvertRefused(0, 50, 50, 50);
        culvertRefused(-1, 50, 50, 50);
        culvertRefused(Integer.MIN_VALUE, 50, 50, 50);
        culvertTaken(10000, 50, 50, 50);
        culvertRefused(10001, 50, 50, 50);
        culvertRefused(Integer.MAX_VALUE, 50, 50, 50);
    }

    private static void heightOfACulvert() {
        culvertTaken(50, 1, 50, 50);
        culvertRefused(50, 0, 50, 50);
        culvertRefused(50, -1, 50, 50);
        culvertRefused(50, Integer.MIN_VALUE, 50, 50);
        culvertTaken(50, 10000, 50, 50);
        culvertRefused(50, 10001, 50, 50);
        culvertRefused(50, Integer.MAX_VALUE, 50, 50);
    }

    /** "length up to 100,000". */
    private static void lengthOfACulvert() {
        culvertTaken(50, 50, 1, 50);
        culvertRefused(50, 50, 0, 50);
        culvertRefused(50, 50, -1, 50);
        culvertRefused(50, 50, Integer.MIN_VALUE, 50);
        culvertTaken(50, 50, 10001, 50);
        culvertTaken(50, 50, 100000, 50);
        culvertRefused(50, 50, 100001, 50);
        culvertRefused(50, 50, Integer.MAX_VALUE, 50);
    }

    /** "fall 0 .. 10,000". */
    private static void fallOfACulvert() {
        culvertTaken(50, 50, 50, 0);
        culvertRefused(50, 50, 50, -1);
        culvertRefused(50, 50, 50, Integer.MIN_VALUE);
        culvertTaken(50, 50, 50, 10000);
        culvertRefused(50, 50, 50, 10001);
        culvertRefused(50, 50, 50, Integer.MAX_VALUE);
    }

    private static Edges.Given culverts(int many) {
        return x -> {
            for (int i = 1; i <= many; i++) {
                x.culvert(i, 10 + i, 20 + i, 30 + i);
            }
        };
    }

    /** "which one .. BAD: .. there are 8". */
    private static void eightCulverts() {
        for (int i = 0; i < 8; i++) {
            EDGES.taken("culvert " + i, culverts(i), x -> x.culvert(1, 1, 1, 1), i);
        }
        EDGES.refused("the ninth", culverts(8), x -> x.culvert(1, 1, 1, 1));
        EDGES.refused("the ninth of something", Edges.and(culverts(6)), x -> x.culvert(1, 1, 1, 1));
        EDGES.taken("eight", culverts(8), x -> x.count(2), 8);
        for (int i = 0; i < 8; i++) {
            int which = i;
            Edges.Given told = x -> {
                culverts(8).to(x);
                Check.tell(x, "w=" + (which + 1) + "&d=" + (which + 11) + "&l=" + (which + 21) + "&f=" + (which + 31));
            };
            for (int other = 0; other < 8; other++) {
                int asked = other;
                EDGES.taken("culvert " + i + " is not " + other, told, x -> x.state(asked, 0, 0, 0), i == other ? 0 : -1);
            }
        }
    }

    private static void greatestCulvertInATest() {
        Edges.Given greatest = x -> {
            x.culvert(10000, 9999, 100000, 9998);
            x.culvert(1, 2, 3, 0);
            Check.tell(x, "w=10000&d=9999&l-1=99999&f=9998;w=1&d=2&l=3&f=0");
        };
        EDGES.taken("the greatest", greatest, x -> x.state(0, 0, 0, 0), 0);
        EDGES.taken("the least", greatest, x -> x.state(1, 0, 0, 0), 1);
    }

    /** A culvert, and two states of which one holds for all. */
    private static void two(BasinSizes x) {
        x.culvert(1000, 800, 20000, 100);
        x.culvert(3, 4, 5, 6);
        Check.tell(x, "h>d&t<q;0=0");
    }

    private static void stateIs(int culvert, int h, int t, int q, int due) {
        String name = "state(" + culvert + ", " + h + ", " + t + ", " + q + ")";
        EDGES.leavesNoTrace(name, CulvertEdgesTest::two, x -> x.state(culvert, h, t, q), due);
    }

    /** "BAD: .. none such culvert". */
    private static void culvertOfAState() {
        stateIs(0, 5, 0, 1, 1);
        stateIs(1, 5, 0, 1, 0);
        stateIs(-1, 5, 0, 1, -1);
        stateIs(2, 5, 0, 1, -1);
        stateIs(8, 5, 0, 1, -1);
        stateIs(Integer.MIN_VALUE, 5, 0, 1, -1);
        stateIs(Integer.MAX_VALUE, 5, 0, 1, -1);
        EDGES.taken("no culvert at all", x -> Check.tell(x, "0=0"), x -> x.state(0, 0, 0, 0), -1);
        EDGES.taken("the eighth", x -> {
            culverts(8).to(x);
            Check.tell(x, "0=0");
        }, x -> x.state(7, 0, 0, 0), 0);
        EDGES.taken("the ninth", x -> {
            culverts(8).to(x);
            Check.tell(x, "0=0");
        }, x -> x.state(8, 0, 0, 0), -1);
    }

    /** "h, t or q not 0 .. 20,000". */
    private static void hOfAState() {
        stateIs(0, 0, 0, 1, 1);
        stateIs(0, -1, 0, 1, -1);
        stateIs(0, Integer.MIN_VALUE, 0, 1, -1);
        stateIs(0, 20000, 0, 1, 0);
        stateIs(0, 20001, 0, 1, -1);
        stateIs(0, Integer.MAX_VALUE, 0, 1, -1);
    }

    private static void tOfAState() {
        stateIs(0, 900, 0, 1, 0);
        stateIs(0, 900, -1, 1, -1);
        stateIs(0, 900, Integer.MIN_VALUE, 1, -1);
        stateIs(0, 900, 20000, 1, 1);
        stateIs(0, 900, 20001, 1, -1);
        stateIs(0, 900, Integer.MAX_VALUE, 1, -1);
    }

    private static void qOfAState() {
        stateIs(0, 900, 0, 0, 1);
        stateIs(0, 900, 0, -1, -1);
        stateIs(0, 900, 0, Integer.MIN_VALUE, -1);
        stateIs(0, 900, 0, 20000, 0);
        stateIs(0, 900, 0, 20001, -1);
        stateIs(0, 900, 0, Integer.MAX_VALUE, -1);
    }

    private static void noStatesAtAll() {
        EDGES.taken("state without states", x -> x.culvert(1, 1, 1, 1), x -> x.state(0, 0, 0, 0), -1);
        EDGES.taken("head without states", x -> x.culvert(1, 1, 1, 1), x -> x.head(0, 0, 0, 0), -1);
        Edges.Given refused = x -> {
            x.culvert(1, 1, 1, 1);
            Check.tell(x, "0=0;");
        };
        EDGES.taken("state behind a wrong text", refused, x -> x.state(0, 0, 0, 0), -1);
        EDGES.taken("head behind a wrong text", refused, x -> x.head(0, 0, 0, 0), -1);
        Edges.Given waiting = x -> {
            x.culvert(1, 1, 1, 1);
            Check.collect(x, "0=0");
        };
        EDGES.taken("state of a text that waits", waiting, x -> x.state(0, 0, 0, 0), -1);
        EDGES.taken("head of a text that waits", waiting, x -> x.head(0, 0, 0, 0), -1);
    }

    private static void stateOf(String text, int h, int t, int q, int due) {
        EDGES.taken("state of '" + text + "' at " + h + " " + t + " " + q, told(text), x -> x.state(0, h, t, q), due);
    }

    private static Edges.Given told(String text) {
        return x -> {
            x.culvert(10000, 9000, 100000, 8000);
            Check.tell(x, text);
        };
    }

    /** "BAD: none": no state holds. */
    private static void none() {
        stateOf("h<5;h>5", 4, 0, 0, 0);
        stateOf("h<5;h>5", 5, 0, 0, -1);
        stateOf("h<5;h>5", 6, 0, 0, 1);
        stateOf("0>0", 0, 0, 0, -1);
        stateOf("0>0;0>0;0>0;0>0;0>0;0>0", 0, 0, 0, -1);
        stateOf("0>0;0>0;0>0;0>0;0>0;0=0", 0, 0, 0, 5);
    }

    /** "The first state all of whose tests hold". */
    private static void firstOfSeveral() {
        stateOf("0=0;0=0;0=0;0=0;0=0;0=0", 0, 0, 0, 0);
        stateOf("h<5;h<6;h<7", 4, 0, 0, 0);
        stateOf("h<5;h<6;h<7", 5, 0, 0, 1);
        stateOf("h<5;h<6;h<7", 6, 0, 0, 2);
        stateOf("h<5;h<6;h<7", 7, 0, 0, -1);
    }

    /** Of five tests, one that does not hold is enough. */
    private static void allTestsHold() {
        stateOf("0=0&0=0&0=0&0=0&0=0", 0, 0, 0, 0);
        String[] tests = {"0=0", "0=0", "0=0", "0=0", "0=0"};
        for (int i = 0; i < 5; i++) {
            tests[i] = "0>0";
            stateOf(String.join("&", tests), 0, 0, 0, -1);
            stateOf(String.join("&", tests) + ";0=0", 0, 0, 0, 1);
            tests[i] = "0=0";
        }
    }

    /** Six states of five tests: in each of them each test alone can keep it from holding. */
    private static void allThirtyTestsHold() {
        for (int state = 0; state < 6; state++) {
            for (int broken = -1; broken < 5; broken++) {
                StringBuilder text = new StringBuilder();
                for (int i = 0; i < 6; i++) {
                    for (int test = 0; test < 5; test++) {
                        boolean holds = i > state || (i == state && test != broken);
                        text.append(i + test == 0 ? "" : test == 0 ? ";" : "&");
                        text.append(holds || (i < state && test != i % 5) ? "h=7" : "h>7");
                    }
                }
                int due = broken < 0 ? state : state < 5 ? state + 1 : -1;
                stateOf(text.toString(), 7, 0, 0, due);
                headOf(text.toString(), state, broken < 0 ? 7 : -1);
            }
        }
    }

    /** One ask after another, with other numbers: no answer depends on the asks before. */
    private static void asksDoNotMix() {
        BasinSizes x = new BasinSizes();
        two(x);
        for (int round = 0; round < 2; round++) {
            CHECK.due("first culvert", x.state(0, 801, 0, 1), 0);
            CHECK.due("less h", x.state(0, 800, 0, 1), 1);
            CHECK.due("more t", x.state(0, 801, 1, 1), 1);
            CHECK.due("more q", x.state(0, 801, 1, 2), 0);
            CHECK.due("head", x.head(0, 0, 0, 1), 801);
            CHECK.due("no head", x.head(0, 0, 1, 1), -1);
            CHECK.due("second culvert", x.state(1, 5, 0, 1), 0);
            CHECK.due("second culvert, less h", x.state(1, 4, 0, 1), 1);
            CHECK.due("head of the second", x.head(1, 0, 0, 1), 5);
            CHECK.due("head of the second, other state", x.head(1, 1, 0, 1), 0);
            CHECK.due("refused", x.state(2, 5, 0, 1), -1);
        }
    }

    private static void belowAboveEqual() {
        int[] at = {4, 5, 6};
        int[] below = {0, -1, -1};
        int[] equal = {-1, 0, -1};
        int[] above = {-1, -1, 0};
        for (int i = 0; i < 3; i++) {
            stateOf("h<5", at[i], 0, 0, below[i]);
            stateOf("5>h", at[i], 0, 0, below[i]);
            stateOf("h=5", at[i], 0, 0, equal[i]);
            stateOf("5=h", at[i], 0, 0, equal[i]);
            stateOf("h>5", at[i], 0, 0, above[i]);
            stateOf("5<h", at[i], 0, 0, above[i]);
            stateOf("t<5", 0, at[i], 0, below[i]);
            stateOf("t=5", 0, at[i], 0, equal[i]);
            stateOf("t>5", 0, at[i], 0, above[i]);
            stateOf("q<5", 0, 0, at[i], below[i]);
            stateOf("q=5", 0, 0, at[i], equal[i]);
            stateOf("q>5", 0, 0, at[i], above[i]);
        }
        // It holds where t is twice h less 10.
        stateOf("3h-2t+10=20-t+h-0", 6, 1, 0, -1);
        stateOf("3h-2t+10=20-t+h-0", 6, 2, 0, 0);
        stateOf("3h-2t+10=20-t+h-0", 6, 3, 0, -1);
    }

    /** "sums in 64 bits": 21475 times a length of 100,000 is above 2^31, and 42950 above 2^32. */
    private static void sumsIn64Bits() {
        stateOf("21475l>0", 0, 0, 0, 0);
        stateOf("21475l<0", 0, 0, 0, -1);
        stateOf("0-21475l<0", 0, 0, 0, 0);
        stateOf("42950l>99999", 0, 0, 0, 0);
        stateOf("99999l+99999l+99999l+99999l>99999l+99999l+99999l+99998l", 0, 0, 0, 0);
        stateOf("99999l+99999l+99999l+99999l=99999l+99999l+99999l+99999l", 0, 0, 0, 0);
        stateOf("0-99999l-99999l-99999l<99999l+99999l+99999l+99999l", 0, 0, 0, 0);
        // 99999 h at 20,000 is 1,999,980,000; twice as much does not fit into 32 bits.
        stateOf("99999h+99999h>99999h+99998h", 20000, 0, 0, 0);
        stateOf("99999h+99999h>0", 20000, 0, 0, 0);
        stateOf("99999h+99999t+99999q>99999w", 20000, 20000, 20000, 0);
        // 2^32 is 42949 times 100,000 and 67,296: what is equal in 32 bits is not.
        stateOf("42949l+67296=0", 0, 0, 0, -1);
        stateOf("42949l+67296>0", 0, 0, 0, 0);
    }

    private static void headIs(int culvert, int state, int t, int q, int due) {
        String name = "head(" + culvert + ", " + state + ", " + t + ", " + q + ")";
        EDGES.leavesNoTrace(name, CulvertEdgesTest::two, x -> x.head(culvert, state, t, q), due);
    }

    /** "no such culvert". */
    private static void culvertOfAHead() {
        headIs(0, 0, 0, 1, 801);
        headIs(1, 0, 0, 1, 5);
        headIs(-1, 0, 0, 1, -1);
        headIs(2, 0, 0, 1, -1);
        headIs(8, 0, 0, 1, -1);
        headIs(Integer.MIN_VALUE, 0, 0, 1, -1);
        headIs(Integer.MAX_VALUE, 0, 0, 1, -1);
        EDGES.taken("head of no culvert at all", x -> Check.tell(x, "0=0"), x -> x.head(0, 0, 0, 0), -1);
    }

    /** "no such .. state". */
    private static void stateOfAHead() {
        headIs(0, 1, 0, 1, 0);
        headIs(0, -1, 0, 1, -1);
        headIs(0, 2, 0, 1, -1);
        headIs(0, 5, 0, 1, -1);
        headIs(0, 6, 0, 1, -1);
        headIs(0, Integer.MIN_VALUE, 0, 1, -1);
        headIs(0, Integer.MAX_VALUE, 0, 1, -1);
        EDGES.taken("the sixth", told("h=0;h=1;h=2;h=3;h=4;h=5"), x -> x.head(0, 5, 0, 0), 5);
        EDGES.taken("the seventh", told("h=0;h=1;h=2;h=3;h=4;h=5"), x -> x.head(0, 6, 0, 0), -1);
    }

    /** "as above": t and q 0 .. 20,000. */
    private static void tOfAHead() {
        headIs(0, 0, 0, 1, 801);
        headIs(0, 0, -1, 1, -1);
        headIs(0, 0, Integer.MIN_VALUE, 1, -1);
        headIs(0, 1, 20000, 1, 0);
        headIs(0, 1, 20001, 1, -1);
        headIs(0, 1, Integer.MAX_VALUE, 1, -1);
    }

    private static void qOfAHead() {
        headIs(0, 1, 0, 0, 0);
        headIs(0, 1, 0, -1, -1);
        headIs(0, 1, 0, Integer.MIN_VALUE, -1);
        headIs(0, 0, 0, 20000, 801);
        headIs(0, 0, 0, 20001, -1);
        headIs(0, 0, 0, Integer.MAX_VALUE, -1);
    }

    private static void headOf(String text, int state, int due) {
        EDGES.taken("head of " + state + " of '" + text + "'", told(text), x -> x.head(0, state, 30, 40), due);
    }

    /** "The least h, 0 .. 20,000": from 0 on. */
    private static void leastHead() {
        headOf("0=0", 0, 0);
        headOf("h=0", 0, 0);
        headOf("h>0", 0, 1);
        headOf("h+1>0", 0, 0);
        headOf("h<1", 0, 0);
        headOf("h<0", 0, -1);
        headOf("h+1=0", 0, -1);
        headOf("h>t", 0, 31);
        headOf("h+1>t", 0, 30);
        headOf("t-h<0", 0, 31);
        headOf("3h>q", 0, 14);
        headOf("3h=q-1", 0, 13);
        headOf("3h=q", 0, -1);
        headOf("5h>q", 0, 9);
        headOf("5h=q", 0, 8);
        headOf("h>100&h>50&h<102", 0, 101);
        headOf("h>100&h<101", 0, -1);
    }

    /** "The least h, 0 .. 20,000": up to 20,000. */
    private static void greatestHead() {
        headOf("h=20000", 0, 20000);
        headOf("h=20001", 0, -1);
        headOf("h>19999", 0, 20000);
        headOf("h>20000", 0, -1);
        headOf("0-h<0-19999", 0, 20000);
        headOf("0-h<0-20000", 0, -1);
        headOf("99999h>99999w+99999w-1", 0, 20000);
        headOf("99999h>99999w+99999w", 0, -1);
        headOf("h<20000;0=0", 1, 20000);
        headOf("h<20001;0=0", 1, -1);
        headOf("h<20000;h=20000;0=0", 2, -1);
        headOf("h<20000;h=20000;0=0", 1, 20000);
    }

    /** "BAD: none". */
    private static void noHead() {
        headOf("0>0", 0, -1);
        headOf("t>30", 0, -1);
        headOf("t=30", 0, 0);
        headOf("q<40", 0, -1);
        headOf("q<41", 0, 0);
        headOf("h>99999l+99999l", 0, -1);
        headOf("h+99999l+99999l<0", 0, -1);
        headOf("2h=2t+1", 0, -1);
        headOf("2h=2t", 0, 30);
        headOf("h=5&h=6", 0, -1);
        headOf("h<5&h>4", 0, -1);
        headOf("h<6&h>4", 0, 5);
    }

    /** A culvert is in the first state that holds: what an earlier one takes is not in a later one. */
    private static void headOfAnEarlierState() {
        headOf("h<10;0=0", 1, 10);
        headOf("h<10;h<11", 1, 10);
        headOf("h<10;h<10", 1, -1);
        headOf("h<10;h=9", 1, -1);
        headOf("h<10;h=10", 1, 10);
        headOf("h>0;0=0", 1, 0);
        headOf("h>0;h>0", 1, -1);
        headOf("h=0;h=1;h=2;h=3;h=4;0=0", 5, 5);
        headOf("h=4;h=3;h=2;h=1;h=0;0=0", 5, 5);
        headOf("h=4;h=2;h=0;h=1;h=3;0=0", 5, 5);
        headOf("h=4;h=2;h=0;h=1;h=5;0=0", 5, 3);
        headOf("0=0;0=0", 1, -1);
        headOf("0>0;0=0", 1, 0);
        headOf("h=7;0=0", 0, 7);
    }

    /** "(All h are looked at.)": the head of each state is the least h for which state() tells it. */
    private static void headsAgreeWithStates() {
        String[] texts = {"h<30&h>10;h<20;h>40;0=0", "3h=t+q+2;2h>t;h=q;5h<q", "h>5&h<9;h>2&h<7;h<20;h<25&h>1;h=30"};
        for (String text : texts) {
            BasinSizes x = new BasinSizes();
            told(text).to(x);
            int[] least = {-1, -1, -1, -1, -1, -1};
            for (int h = 60; h >= 0; h--) {
                int state = x.state(0, h, 30, 40);
                if (state >= 0) {
                    least[state] = h;
                }
            }
            for (int state = 0; state < 6; state++) {
                CHECK.due("head of " + state + " of '" + text + "'", x.head(0, state, 30, 40), least[state]);
            }
        }
    }
}
