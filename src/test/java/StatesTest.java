/** Promises 10 to 14: culvert, unit, states, state, head. */
public final class StatesTest {
    private static final Check CHECK = new Check("StatesTest");

    public static void main(String[] args) {
        culverts();
        units();
        goodTexts();
        wrongSigns();
        endsTooEarly();
        numbersThatMayNotBe();
        tooMany();
        statesStay();
        whatALetterMeans();
        sumsAndRelations();
        theFirstState();
        allTestsOfAllStates();
        rangesOfAState();
        heads();
        headsBehindEarlierStates();
        rangesOfAHead();
        CHECK.finish();
    }

    private static void culverts() {
        BasinSizes x = new BasinSizes();
        int[][] wrong = {{0, 1, 1, 1}, {10001, 1, 1, 1}, {1, 0, 1, 1}, {1, 10001, 1, 1}, {1, 1, 0, 1},
            {1, 1, 100001, 1}, {1, 1, 1, -1}, {1, 1, 1, 10001}, {Integer.MIN_VALUE, 1, 1, 1},
            {1, Integer.MAX_VALUE, 1, 1}, {1, 1, Integer.MIN_VALUE, 1}, {1, 1, 1, Integer.MAX_VALUE}};
        for (int[] w : wrong) {
            CHECK.due("culvert " + java.util.Arrays.toString(w), x.culvert(w[0], w[1], w[2], w[3]), -1);
        }
        CHECK.due("none was taken", x.count(2), 0);
        CHECK.due("least", x.culvert(1, 1, 1, 0), 0);
        CHECK.due("greatest", x.culvert(10000, 10000, 100000, 10000), 1);
        for (int i = 2; i < 8; i++) {
            CHECK.due("culvert " + i, x.culvert(i, i, i, i), i);
        }
        CHECK.due("one too many", x.culvert(1, 1, 1, 1), -1);
        CHECK.due("eight", x.count(2), 8);
        CHECK.due("one for the last", Check.tell(x, "w=7"), 1);
        CHECK.due("the last one counts", x.state(7, 0, 0, 0), 0);
        CHECK.due("not the one before", x.state(6, 0, 0, 0), -1);
    }

    private static void units() {
        BasinSizes x = new BasinSizes();
        for (int u : new int[] {31, 127, 0, -1, 128, 32 + 256, 104 + 65536, Integer.MIN_VALUE, Integer.MAX_VALUE}) {
            CHECK.due("unit " + u, x.unit(u), false);
        }
        CHECK.due("none was taken", x.count(6), 0);
        for (int u = 32; u <= 126; u++) {
            CHECK.due("unit " + u, x.unit(u), true);
        }
        CHECK.due("all were taken", x.count(6), 95);
        CHECK.due("no digit or letter: a sign that is wrong", x.states(), -2);
        CHECK.due("they are gone", x.count(6), 0);
        for (int i = 0; i < 300; i++) {
            CHECK.due("sign " + i, x.unit(i < 297 ? ' ' : "h<1".charAt(i - 297)), true);
        }
        CHECK.due("no room", x.unit('1'), false);
        CHECK.due("three hundred", x.count(6), 300);
        CHECK.due("a text of 300 signs", x.states(), 1);
        CHECK.due("room again", x.unit(' '), true);
        CHECK.due("the former text is gone", x.states(), -2);
    }

    private static void goodTexts() {
        String[] texts = {"h<1", "1>h", "0=0", "99999<99999h", "h=h;t=t", " h < 1 ", "2 h+3  t-0 = 4q -w",
            "d+l-f+w<q+h-t-1", "h<1&t<1&q<1&w<1&d<1", "1=1;1=1;1=1;1=1;1=1;1=1", "10h<1", "1-1=0+0"};
        int[] due = {1, 1, 1, 1, 2, 1, 1, 1, 1, 6, 1, 1};
        for (int i = 0; i < texts.length; i++) {
            BasinSizes x = new BasinSizes();
            CHECK.due(texts[i], Check.tell(x, texts[i]), due[i]);
            CHECK.due("count of " + texts[i], x.count(3), due[i]);
            CHECK.due("signs behind " + texts[i], x.count(6), 0);
        }
        StringBuilder longest = new StringBuilder();
        for (int i = 0; i < 6; i++) {
            longest.append(i == 0 ? "" : ";").append("h<1&h<1&h<1&h<1&h+h+h+h<h-h-h-1");
        }
        CHECK.due("all at its most", Check.tell(new BasinSizes(), longest.toString()), 6);
    }

    private static void wrongSign(String text, int number) {
        BasinSizes x = new BasinSizes();
        CHECK.due("wrong sign of '" + text + "'", Check.tell(x, text), -1 - number);
        CHECK.due("no states behind '" + text + "'", x.count(3), 0);
        CHECK.due("no signs behind '" + text + "'", x.count(6), 0);
    }

    private static void wrongSigns() {
        wrongSign("x<1", 0);
        wrongSign("H<1", 0);
        wrongSign("-h<1", 0);
        wrongSign("+h<1", 0);
        wrongSign("<1", 0);
        wrongSign(";h<1", 0);
        wrongSign("&h<1", 0);
        wrongSign("hh<1", 1);
        wrongSign("h 3<1", 2);
        wrongSign("3 4<1", 2);
        wrongSign("3hh<1", 2);
        wrongSign("h;", 1);
        wrongSign("h&t<1", 1);
        wrongSign("h<=1", 2);
        wrongSign("h<>1", 2);
        wrongSign("h==1", 2);
        wrongSign("h<1<2", 3);
        wrongSign("h<1 x", 4);
        wrongSign("h<1;;h<1", 4);
        wrongSign("h<1&&h<1", 4);
        wrongSign("h<1&;h<1", 4);
        wrongSign("h<1;&h<1", 4);
        wrongSign("h<1; x<1", 5);
        wrongSign("h+-t<1", 2);
        wrongSign("h+<1", 2);
        wrongSign("h<1h;2(", 6);
        wrongSign("h<1.5", 3);
        wrongSign("h<h1", 3);
        wrongSign("0x<1", 1);
        wrongSign("10x<1", 2);
    }

    private static void endsTooEarly() {
        wrongSign("", 0);
        wrongSign("   ", 3);
        wrongSign("h", 1);
        wrongSign("12", 2);
        wrongSign("h<", 2);
        wrongSign("h< ", 3);
        wrongSign("h+", 2);
        wrongSign("h + ", 4);
        wrongSign("h<1+", 4);
        wrongSign("h<1&", 4);
        wrongSign("h<1;", 4);
        wrongSign("h<1 ; ", 6);
        wrongSign("h<1&t", 5);
    }

    private static void numbersThatMayNotBe() {
        wrongSign("00<1", 0);
        wrongSign("01<1", 0);
        wrongSign(" 00001h<1", 1);
        wrongSign("h<05", 2);
        wrongSign("100000<h", 0);
        wrongSign("h<  123456", 4);
        wrongSign("h<1234567890123456789012345678901234567890", 2);
        wrongSign("0h<1", 0);
        wrongSign("0 h<1", 0);
        wrongSign("h=0t", 2);
        wrongSign("h=1+0  q", 4);
        wrongSign("00x<1", 0);
        wrongSign("000000", 0);
    }

    private static void tooMany() {
        wrongSign("h+h+h+h+h<1", 8);
        wrongSign("h+h+h+h+  h<1", 10);
        wrongSign("1<h-h-h-h-h", 10);
        wrongSign("1<h-h-h-h-", 10);
        wrongSign("1<h-h-h-h- ", 11);
        wrongSign("h<1&h<1&h<1&h<1&h<1&h<1", 20);
        wrongSign("h<1&h<1&h<1&h<1&h<1& h<1", 21);
        wrongSign("h<1&h<1&h<1&h<1&h<1&", 20);
        wrongSign("h<1;h<1;h<1;h<1;h<1;h<1;h<1", 24);
        wrongSign("h<1;h<1;h<1;h<1;h<1;h<1;  h<1", 26);
        wrongSign("h<1;h<1;h<1;h<1;h<1;h<1;", 24);
        wrongSign("h<1;h<1&h<1&h<1&h<1&h<1&h<1", 24);
    }

    private static void statesStay() {
        BasinSizes x = new BasinSizes();
        x.culvert(1, 1, 1, 1);
        CHECK.due("told", Check.tell(x, "h>10;h<5"), 2);
        CHECK.due("before", x.state(0, 4, 0, 0), 1);
        CHECK.due("wrong late", Check.tell(x, "h=4;h=3;h=2;x"), -13);
        CHECK.due("as many as before", x.count(3), 2);
        CHECK.due("as before", x.state(0, 4, 0, 0), 1);
        CHECK.due("as before too", x.state(0, 11, 0, 0), 0);
        CHECK.due("none as before", x.state(0, 5, 0, 0), -1);
        CHECK.due("wrong again", Check.tell(x, ""), -1);
        CHECK.due("still as before", x.head(0, 0, 0, 0), 11);
        CHECK.due("told anew", Check.tell(x, "h=4"), 1);
        CHECK.due("anew", x.state(0, 4, 0, 0), 0);
        CHECK.due("the former are gone", x.state(0, 11, 0, 0), -1);
        CHECK.due("told a third time", Check.tell(x, "t=4;t=5&h=1"), 2);
        CHECK.due("third", x.state(0, 1, 5, 0), 1);
        CHECK.due("a culvert comes later", x.culvert(2, 2, 2, 2), 1);
        CHECK.due("states hold for it", x.state(1, 1, 5, 0), 1);
    }

    private static void whatALetterMeans() {
        BasinSizes x = new BasinSizes();
        x.culvert(11, 12, 13, 14);
        x.culvert(21, 22, 23, 24);
        String letters = "htqwdlf";
        long[][] due = {{1, 2, 3, 11, 12, 13, 14}, {1, 2, 3, 21, 22, 23, 24}};
        for (int i = 0; i < letters.length(); i++) {
            for (int c = 0; c < 2; c++) {
                Check.tell(x, letters.charAt(i) + "=" + due[c][i]);
                CHECK.due(letters.charAt(i) + " of " + c, x.state(c, 1, 2, 3), 0);
                Check.tell(x, letters.charAt(i) + "=" + (due[c][i] + 1));
                CHECK.due(letters.charAt(i) + " of " + c + " and 1", x.state(c, 1, 2, 3), -1);
            }
        }
    }

    private static boolean holds(String test, int h, int t, int q) {
        BasinSizes x = new BasinSizes();
        x.culvert(10000, 10000, 100000, 10000);
        CHECK.due(test, Check.tell(x, test), 1);
        return x.state(0, h, t, q) == 0;
    }

    private static void sumsAndRelations() {
        CHECK.due("below", holds("h<5", 4, 0, 0), true);
        CHECK.due("not below", holds("h<5", 5, 0, 0), false);
        CHECK.due("above", holds("h>5", 6, 0, 0), true);
        CHECK.due("not above", holds("h>5", 5, 0, 0), false);
        CHECK.due("equal", holds("h=5", 5, 0, 0), true);
        CHECK.due("not equal below", holds("h=5", 4, 0, 0), false);
        CHECK.due("not equal above", holds("h=5", 6, 0, 0), false);
        CHECK.due("turned", holds("5<h", 6, 0, 0), true);
        CHECK.due("turned, not", holds("5<h", 5, 0, 0), false);
        CHECK.due("less is less", holds("7-2-1=h", 4, 0, 0), true);
        CHECK.due("less and more", holds("7-2+1=h", 6, 0, 0), true);
        CHECK.due("less on the right", holds("h=7-2-1+3", 7, 0, 0), true);
        CHECK.due("a letter on both sides", holds("3h-t=2h+1", 6, 5, 0), true);
        CHECK.due("a letter on both sides, not", holds("3h-t=2h+1", 7, 5, 0), false);
        CHECK.due("only odd by two", holds("2h=7", 3, 0, 0), false);
        CHECK.due("not even the next", holds("2h=7", 4, 0, 0), false);
        CHECK.due("by three, below", holds("3h<10", 3, 0, 0), true);
        CHECK.due("by three, above", holds("3h>10", 3, 0, 0), false);
        CHECK.due("by three, next", holds("3h>10", 4, 0, 0), true);
        CHECK.due("falling", holds("10-3h<0", 4, 0, 0), true);
        CHECK.due("falling, not", holds("10-3h<0", 3, 0, 0), false);
        CHECK.due("falling to above", holds("10-3h>0", 3, 0, 0), true);
        CHECK.due("without a letter", holds("1<0", 0, 0, 0), false);
        CHECK.due("without a letter, so", holds("0<1", 0, 0, 0), true);
        CHECK.due("64 bits", holds("99999l+99999l+99999l+99999l>99999w+99999w", 0, 0, 0), true);
        CHECK.due("64 bits, less", holds("0-99999l-99999l-99999l<0-99999", 0, 0, 0), true);
        CHECK.due("64 bits, equal", holds("43l=43w+99999q", 0, 0, 0), false);
        CHECK.due("all signs with it", holds("99999h+99999h-99999h-99998h=h", 20000, 0, 0), true);
    }

    private static void theFirstState() {
        BasinSizes x = new BasinSizes();
        x.culvert(1000, 800, 20000, 100);
        CHECK.due("told", Check.tell(x, "h<d&t<d;t>d&h>t;2h>3d&q>w-10;h=h"), 4);
        CHECK.due("first", x.state(0, 100, 50, 1), 0);
        CHECK.due("both of its tests", x.state(0, 100, 800, 1), 3);
        CHECK.due("second", x.state(0, 900, 850, 1), 1);
        CHECK.due("third", x.state(0, 1201, 10, 991), 2);
        CHECK.due("not yet third by h", x.state(0, 1200, 10, 991), 3);
        CHECK.due("not yet third by q", x.state(0, 1201, 10, 990), 3);
        CHECK.due("second before third", x.state(0, 2000, 850, 2000), 1);
        CHECK.due("told", Check.tell(x, "h=1;h<3"), 2);
        CHECK.due("none", x.state(0, 3, 0, 0), -1);
        CHECK.due("the first of two", x.state(0, 1, 0, 0), 0);
        CHECK.due("the second of two", x.state(0, 2, 0, 0), 1);
    }

    /** Each of the 30 tests alone decides once whether its state holds. */
    private static void allTestsOfAllStates() {
        BasinSizes x = new BasinSizes();
        for (int i = 0; i < 5; i++) {
            x.culvert(1 + i, 1, 1, 1);
        }
        StringBuilder text = new StringBuilder();
        for (int state = 0; state < 6; state++) {
            text.append(state == 0 ? "" : ";").append("t=").append(state).append("&w<5&q<3&h<2&h>0");
        }
        CHECK.due("told", Check.tell(x, text.toString()), 6);
        for (int state = 0; state < 6; state++) {
            CHECK.due("all hold", x.state(3, 1, state, 2), state);
            CHECK.due("not the first", x.state(3, 1, state + 6, 2), -1);
            CHECK.due("not the second", x.state(4, 1, state, 2), -1);
            CHECK.due("not the third", x.state(3, 1, state, 3), -1);
            CHECK.due("not the fourth", x.state(3, 2, state, 2), -1);
            CHECK.due("not the fifth", x.state(3, 0, state, 2), -1);
            CHECK.due("head", x.head(3, state, state, 2), 1);
        }
    }

    private static void rangesOfAState() {
        BasinSizes x = new BasinSizes();
        x.culvert(1, 1, 1, 1);
        Check.tell(x, "0=0");
        CHECK.due("least", x.state(0, 0, 0, 0), 0);
        CHECK.due("greatest", x.state(0, 20000, 20000, 20000), 0);
        int[][] wrong = {{-1, 0, 0, 0}, {1, 0, 0, 0}, {8, 0, 0, 0}, {0, -1, 0, 0}, {0, 20001, 0, 0}, {0, 0, -1, 0},
            {0, 0, 20001, 0}, {0, 0, 0, -1}, {0, 0, 0, 20001}, {Integer.MIN_VALUE, 0, 0, 0},
            {Integer.MAX_VALUE, 0, 0, 0}, {0, Integer.MIN_VALUE, 0, 0}, {0, 0, Integer.MAX_VALUE, 0},
            {0, 0, 0, Integer.MIN_VALUE}};
        for (int[] w : wrong) {
            CHECK.due("state " + java.util.Arrays.toString(w), x.state(w[0], w[1], w[2], w[3]), -1);
        }
    }

    private static int leastHead(String text, int state) {
        BasinSizes x = new BasinSizes();
        x.culvert(1000, 800, 20000, 100);
        Check.tell(x, text);
        return x.head(0, state, 30, 40);
    }

    private static void heads() {
        CHECK.due("all", leastHead("0=0", 0), 0);
        CHECK.due("none", leastHead("0>0", 0), -1);
        CHECK.due("above", leastHead("h>d", 0), 801);
        CHECK.due("below", leastHead("h<d", 0), 0);
        CHECK.due("equal", leastHead("3h=d+1", 0), 267);
        CHECK.due("never equal", leastHead("3h=d", 0), -1);
        CHECK.due("the greatest", leastHead("h>19999", 0), 20000);
        CHECK.due("beyond the greatest", leastHead("h>20000", 0), -1);
        CHECK.due("equal to the greatest", leastHead("h=l", 0), 20000);
        CHECK.due("less than 0", leastHead("h<0", 0), -1);
        CHECK.due("far less than 0", leastHead("h+99999l+99999l<0", 0), -1);
        CHECK.due("far beyond", leastHead("h>99999l", 0), -1);
        CHECK.due("t", leastHead("h>t", 0), 31);
        CHECK.due("q", leastHead("h>q", 0), 41);
        CHECK.due("all of its tests", leastHead("h>5&h>t&h>7&h<32", 0), 31);
        CHECK.due("tests without a common h", leastHead("h>5&h<6", 0), -1);
    }

    private static void headsBehindEarlierStates() {
        CHECK.due("behind the first", leastHead("h<10;h<20", 1), 10);
        CHECK.due("behind both", leastHead("h<10;h<20;0=0", 2), 20);
        CHECK.due("behind both, turned", leastHead("h>9&h<20;h<10;0=0", 2), 20);
        CHECK.due("behind five in a bad order",
                leastHead("h>39&h<50;h>29&h<40;h>19&h<30;h>9&h<20;h<10;0=0", 5), 50);
        CHECK.due("in a gap", leastHead("h<10;h>10;0=0", 2), 10);
        CHECK.due("no gap", leastHead("h<10;h>9;0=0", 2), -1);
        CHECK.due("wholly behind", leastHead("h<10;h=5", 1), -1);
        CHECK.due("up to the greatest", leastHead("h>5;h>2", 1), 3);
        CHECK.due("all is taken", leastHead("0=0;h=5", 1), -1);
        CHECK.due("nothing is taken", leastHead("0>0;h=5", 1), 5);
        CHECK.due("later ones take nothing", leastHead("h=5;0=0", 0), 5);
    }

    private static void rangesOfAHead() {
        BasinSizes x = new BasinSizes();
        x.culvert(1, 1, 1, 1);
        Check.tell(x, "h<20001;0=0");
        CHECK.due("least", x.head(0, 0, 0, 0), 0);
        CHECK.due("greatest", x.head(0, 0, 20000, 20000), 0);
        int[][] wrong = {{-1, 0, 0, 0}, {1, 0, 0, 0}, {0, -1, 0, 0}, {0, 2, 0, 0}, {0, 6, 0, 0}, {0, 0, -1, 0},
            {0, 0, 20001, 0}, {0, 0, 0, -1}, {0, 0, 0, 20001}, {Integer.MIN_VALUE, 0, 0, 0},
            {Integer.MAX_VALUE, 0, 0, 0}, {0, Integer.MIN_VALUE, 0, 0}, {0, Integer.MAX_VALUE, 0, 0},
            {0, 0, Integer.MAX_VALUE, 0}, {0, 0, 0, Integer.MIN_VALUE}};
        for (int[] w : wrong) {
            CHECK.due("head " + java.util.Arrays.toString(w), x.head(w[0], w[1], w[2], w[3]), -1);
        }
        CHECK.due("no h is left for it", x.head(0, 1, 0, 0), -1);
    }
}
