/** Promises 11 and 12, at each edge that the document names: unit, states. */
public final class TextEdgesTest {
    private static final Check CHECK = new Check("TextEdgesTest");
    private static final Edges EDGES = new Edges(CHECK);

    public static void main(String[] args) {
        signsOfAUnit();
        threeHundredSigns();
        refusedUnitIsNotInTheText();
        textIsGone();
        noText();
        oneStateOrMore();
        sixStates();
        oneTestOrMore();
        fiveTests();
        oneRelation();
        oneTermOrMore();
        fourTerms();
        fiveDigits();
        noZeroInFront();
        zeroItself();
        zeroAndALetter();
        oneLetter();
        lettersThatThereAre();
        blanks();
        endsTooEarly();
        firstWrongSign();
        lastWrongSign();
        statesStay();
        longestText();
        textsInTurn();
        CHECK.finish();
    }

    private static void unitTaken(int u) {
        EDGES.taken("unit(" + u + ")", Edges.NOTHING, x -> x.unit(u) ? x.count(6) : -1, 1);
    }

    private static void unitRefused(int u) {
        EDGES.leavesNoTrace("unit(" + u + ")", Edges.NOTHING, x -> x.unit(u) ? 1 : 0, 0);
        EDGES.leavesNoTrace("unit(" + u + ")", Edges::something, x -> x.unit(u) ? 1 : 0, 0);
    }

    /** "A sign of 32 .. 126 is collected .. False: another one". */
    private static void signsOfAUnit() {
        unitTaken(32);
        unitRefused(31);
        unitTaken(126);
        unitRefused(127);
        unitRefused(0);
        unitRefused(-1);
        unitRefused(10);
        unitRefused(160);
        unitRefused(Integer.MIN_VALUE);
        unitRefused(Integer.MAX_VALUE);
        // These look like an 'h' in 8 and in 16 bits.
        unitRefused('h' + 256);
        unitRefused('h' + 65536);
        unitRefused('h' - 256);
    }

    private static Edges.Given blanksAnd(int blanks, String text) {
        return x -> {
            for (int i = 0; i < blanks; i++) {
                x.unit(' ');
            }
            Check.collect(x, text);
        };
    }

    /** "at most 300. False: .. no room". */
    private static void threeHundredSigns() {
        EDGES.taken("the 299th", blanksAnd(298, ""), x -> x.unit('h') ? x.count(6) : -1, 299);
        EDGES.taken("the 300th", blanksAnd(299, ""), x -> x.unit('h') ? x.count(6) : -1, 300);
        EDGES.leavesNoTrace("the 301st", blanksAnd(297, "h<1"), x -> x.unit('0') ? 1 : 0, 0);
        EDGES.leavesNoTrace("a wrong 301st", blanksAnd(297, "h<1"), x -> x.unit(31) ? 1 : 0, 0);
        // Five signs of something wait already.
        EDGES.leavesNoTrace("the 301st of something", Edges.and(blanksAnd(295, "")), x -> x.unit('0') ? 1 : 0, 0);
        EDGES.taken("300 signs are read", blanksAnd(297, "h<1"), BasinSizes::states, 1);
        EDGES.taken("the 301st is not read", blanksAnd(297, "h<1x"), BasinSizes::states, 1);
        EDGES.taken("the 300th is read", blanksAnd(296, "h<1x"), BasinSizes::states, -1 - 299);
        EDGES.taken("behind the 300th it ends", blanksAnd(298, "h<1"), BasinSizes::states, -1 - 300);
        EDGES.taken("room again", blanksAnd(300, ""), x -> {
            x.states();
            return x.unit('h') ? x.count(6) : -1;
        }, 1);
    }

    private static void refusedUnitIsNotInTheText() {
        EDGES.taken("without a refused sign", x -> {
            x.unit('h');
            x.unit(127);
            x.unit('<');
            x.unit(31);
            x.unit('1');
        }, BasinSizes::states, 1);
        EDGES.taken("refused signs have no number", x -> {
            x.unit(31);
            x.unit('h');
            x.unit(127);
            x.unit('x');
        }, BasinSizes::states, -2);
    }

    /** "it is gone, also if not". */
    private static void textIsGone() {
        for (String text : new String[] {"h<1", "h<", "x", " ", "h+h+h+h+h<1", "h<01"}) {
            Edges.Given told = x -> Check.tell(x, text);
            EDGES.taken("signs behind '" + text + "'", told, x -> x.count(6), 0);
            EDGES.taken("nothing is told behind '" + text + "'", told, BasinSizes::states, -1);
            EDGES.taken("a new text behind '" + text + "'", told, x -> Check.tell(x, "t=1;q=1"), 2);
            EDGES.taken("signs are numbered anew behind '" + text + "'", told, x -> Check.tell(x, "t=1x"), -4);
        }
    }

    private static void good(String text, int states) {
        EDGES.taken("'" + text + "'", Edges.NOTHING, x -> Check.tell(x, text), states);
        EDGES.taken("'" + text + "' for others", Edges.and(BasinSizes::states), x -> Check.tell(x, text), states);
        EDGES.taken("count of '" + text + "'", Edges.and(BasinSizes::states), x -> {
            Check.tell(x, text);
            return x.count(3);
        }, states);
    }

    /** Refused at a sign: the states stay as they were. */
    private static void wrong(String text, int sign) {
        EDGES.taken("'" + text + "'", Edges.NOTHING, x -> Check.tell(x, text), -1 - sign);
        EDGES.leavesNoTrace("'" + text + "' for others", Edges.and(BasinSizes::states), x -> Check.tell(x, text),
                -1 - sign);
    }

    private static void noText() {
        wrong("", 0);
        wrong(" ", 1);
        wrong("      ", 6);
    }

    /** "one or more, with ; between". */
    private static void oneStateOrMore() {
        good("h<1", 1);
        good("h<1;h<2", 2);
        wrong(";", 0);
        wrong(";h<1", 0);
        wrong("h<1;", 4);
        wrong("h<1;;h<1", 4);
        wrong("h<1,h<1", 3);
        wrong("h<1:h<1", 3);
        wrong("h<q h<1", 4);
        // Here the 1 takes the h behind the blank.
        wrong("h<1 h<1", 5);
    }

    /** "At most 6 states": the seventh is wrong where it begins. */
    private static void sixStates() {
        good("1<h;1<h;1<h;1<h;1<h", 5);
        good("1<h;1<h;1<h;1<h;1<h;1<h", 6);
        wrong("1<h;1<h;1<h;1<h;1<h;1<h;1<h", 24);
        wrong("1<h;1<h;1<h;1<h;1<h;1<h;   1<h", 27);
        wrong("1<h;1<h;1<h;1<h;1<h;1<h   ;1<h", 27);
        wrong("1<h;1<h;1<h;1<h;1<h;1<h;1<h;1<h", 24);
        wrong("1<h;1<h;1<h;1<h;1<h;1<h;", 24);
        wrong("1<h;1<h;1<h;1<h;1<h;1<h; ", 25);
        wrong("1<h;1<h;1<h;1<h;1<h;1<h;x", 24);
        // What is wrong in the sixth comes before.
        wrong("1<h;1<h;1<h;1<h;1<h;1<x;1<h", 22);
    }

    /** "one or more TESTS with & between". */
    private static void oneTestOrMore() {
        good("h<1&t<1", 1);
        wrong("&", 0);
        wrong("&h<1", 0);
        wrong("h<1&", 4);
        wrong("h<1&&h<1", 4);
        wrong("h<1&;h<1", 4);
        wrong("h<1;&h<1", 4);
        wrong("h<1|h<1", 3);
    }

    /** "5 tests in each": the sixth is wrong where it begins; each state has five of its own. */
    private static void fiveTests() {
        good("1<h&1<h&1<h&1<h", 1);
        good("1<h&1<h&1<h&1<h&1<h", 1);
        wrong("1<h&1<h&1<h&1<h&1<h&1<h", 20);
        wrong("1<h&1<h&1<h&1<h&1<h&   1<h", 23);
        wrong("1<h&1<h&1<h&1<h&1<h   &1<h", 23);
        wrong("1<h&1<h&1<h&1<h&1<h&", 20);
        wrong("1<h&1<h&1<h&1<h&1<h& ", 21);
        wrong("1<h&1<h&1<h&1<h&1<h&x", 20);
        good("1<h&1<h&1<h&1<h&1<h;1<h&1<h&1<h&1<h&1<h", 2);
        wrong("1<h&1<h&1<h&1<h&1<h;1<h&1<h&1<h&1<h&1<h&1<h", 40);
        wrong("1<h;1<h&1<h&1<h&1<h&1<h&1<h", 24);
    }

    /** "a SUM, < or > or =, a SUM": one of them, once. */
    private static void oneRelation() {
        good("h<1", 1);
        good("h>1", 1);
        good("h=1", 1);
        wrong("h", 1);
        wrong("h;t<1", 1);
        wrong("h&t<1", 1);
        wrong("h!1", 1);
        wrong("h<=1", 2);
        wrong("h>=1", 2);
        wrong("h==1", 2);
        wrong("h<>1", 2);
        wrong("h<1<2", 3);
        wrong("h<1=1", 3);
        wrong("h<1>1", 3);
        wrong("<1", 0);
        wrong("h<;h<1", 2);
        wrong("h<&h<1", 2);
    }

    /** "one or more TERMS with + or - between". */
    private static void oneTermOrMore() {
        good("h+t<1-q", 1);
        wrong("+h<1", 0);
        wrong("-h<1", 0);
        wrong("h<-1", 2);
        wrong("h<+1", 2);
        wrong("h+<1", 2);
        wrong("h-<1", 2);
        wrong("h++t<1", 2);
        wrong("h+-t<1", 2);
        wrong("h*t<1", 1);
        wrong("h t<1", 2);
        wrong("ht<1", 1);
        wrong("1 1<1", 2);
        wrong("h<1+;h<1", 4);
    }

    /** "4 terms in a sum": the fifth is wrong where it begins; each sum has four of its own. */
    private static void fourTerms() {
        good("h+h+h<1", 1);
        good("h+h+h+h<1", 1);
        wrong("h+h+h+h+h<1", 8);
        wrong("h+h+h+h-h<1", 8);
        wrong("h+h+h+h+   h<1", 11);
        wrong("h+h+h+h   +h<1", 11);
        wrong("h+h+h+h+", 8);
        wrong("h+h+h+h+ ", 9);
        wrong("h+h+h+h+<1", 8);
        wrong("h+h+h+h+01<1", 8);
        good("1<h-h-h-h", 1);
        wrong("1<h-h-h-h-h", 10);
        wrong("1<h-h-h-h-", 10);
        good("h+h+h+h<h+h+h+h", 1);
        wrong("h+h+h+h<h+h+h+h+12345", 16);
        good("h+h+h+h<1&h+h+h+h<1;h+h+h+h<1", 2);
        wrong("h+h+h+h<1&h+h+h+h+h<1", 18);
        good("12345h + 12345h + 12345h + 12345h < 12345 h", 1);
    }

    /** "1 to 5 digits": a number with more is wrong at its first digit. */
    private static void fiveDigits() {
        good("9<h", 1);
        good("9999<h", 1);
        good("10000<h", 1);
        good("99999<h", 1);
        wrong("100000<h", 0);
        wrong("999999<h", 0);
        good("h<99999", 1);
        wrong("h<100000", 2);
        good("99999h<1", 1);
        wrong("100000h<1", 0);
        wrong("h+  100000<1", 4);
        wrong("100000", 0);
        wrong("100000x", 0);
        wrong("h<1&h<123456&h<1", 6);
        wrong("h<1;123456h<1", 4);
        // Read in 32 or 64 bits these would be 1 and 0.
        wrong("h<4294967297", 2);
        wrong("h<18446744073709551616", 2);
    }

    /** "no 0 in front but 0 itself". */
    private static void noZeroInFront() {
        wrong("00<h", 0);
        wrong("01<h", 0);
        wrong("09999<h", 0);
        wrong("000000<h", 0);
        wrong("h<01", 2);
        wrong("h< 00", 3);
        wrong("01h<1", 0);
        wrong("00h<1", 0);
        good("10<h", 1);
        good("100<h", 1);
        // A 0 and another number are two terms without a sign between.
        wrong("0 1<h", 2);
    }

    private static void zeroItself() {
        good("0<h", 1);
        good("h>0", 1);
        good("0=0", 1);
        good("h+0-0<1", 1);
        good("h>0&t>0;q=0", 2);
        good("h>0 ", 1);
    }

    /** "a NUMBER (not 0) and one letter": a 0 with a letter is a number that may not be. */
    private static void zeroAndALetter() {
        good("1h<1", 1);
        wrong("0h<1", 0);
        wrong("0 h<1", 0);
        wrong("h<0q", 2);
        wrong("h<1+0   t", 4);
        wrong("h<1;0w=1", 4);
        // No letter of a term stands behind these.
        wrong("0x<1", 1);
        wrong("0H<1", 1);
    }

    private static void oneLetter() {
        wrong("hh<1", 1);
        wrong("2hh<1", 2);
        wrong("2h h<1", 3);
        wrong("h2<1", 1);
        wrong("h 2<1", 2);
        wrong("2 2h<1", 2);
    }

    /** Each sign alone before "<1": h, t, w, d, l, f, q and digits are terms, and nothing else is. */
    private static void lettersThatThereAre() {
        for (int u = 33; u <= 126; u++) {
            char sign = (char) u;
            boolean term = "htwdlfq0123456789".indexOf(sign) >= 0;
            EDGES.taken("'" + sign + "<1'", Edges.NOTHING, x -> Check.tell(x, sign + "<1"), term ? 1 : -1);
            boolean letter = "htwdlfq".indexOf(sign) >= 0;
            boolean digit = '0' <= u && u <= '9';
            EDGES.taken("'1" + sign + "<1'", Edges.NOTHING, x -> Check.tell(x, "1" + sign + "<1"),
                    letter || digit ? 1 : "<=>".indexOf(sign) >= 0 ? -3 : "+-".indexOf(sign) >= 0 ? -3 : -2);
            EDGES.taken("'1<1" + sign + "'", Edges.NOTHING, x -> Check.tell(x, "1<1" + sign),
                    letter || digit ? 1 : "+-&;".indexOf(sign) >= 0 ? -5 : -4);
        }
    }

    /** "Blanks do not matter between all these"; within a number they do. */
    private static void blanks() {
        good(" h<1", 1);
        good("h<1 ", 1);
        good("  2  h  +  3  -  t  <  q  &  0  =  0  ;  h  >  1  ", 2);
        good("2 h<1", 1);
        wrong("1 0<h", 2);
        wrong("h<1 0", 4);
        wrong("h< 1  x", 6);
        wrong("  x", 2);
        wrong("h < 1 ; ; ", 8);
    }

    /** "if it ends too early, the one behind the last". */
    private static void endsTooEarly() {
        wrong("h", 1);
        wrong("0", 1);
        wrong("99999", 5);
        wrong("2h", 2);
        wrong("h<", 2);
        wrong("h+", 2);
        wrong("h+t", 3);
        wrong("h<1+", 4);
        wrong("h<1-", 4);
        wrong("h<1&", 4);
        wrong("h<1;", 4);
        wrong("h<1&t", 5);
        wrong("h<1;t", 5);
        wrong("h<1;t=", 6);
        wrong("h ", 2);
        wrong("h< ", 3);
        wrong("h<1;  ", 6);
    }

    /** "the number (from 0) of its first sign that is wrong". */
    private static void firstWrongSign() {
        wrong("x", 0);
        wrong("xyz", 0);
        wrong("h<x;y<z", 2);
        wrong("x<01", 0);
        wrong("h<01;x", 2);
    }

    /** The last sign that there can be, and all before it. */
    private static void lastWrongSign() {
        EDGES.taken("wrong at 299", blanksAnd(296, "h<1x"), BasinSizes::states, -300);
        EDGES.taken("wrong at 298", blanksAnd(295, "h<1xx"), BasinSizes::states, -299);
        EDGES.taken("a number behind the last", blanksAnd(297, "h<123"), BasinSizes::states, 1);
        EDGES.taken("a number with too many at the end", blanksAnd(292, "h<123456"), BasinSizes::states, -295);
        EDGES.taken("nothing but blanks", blanksAnd(300, ""), BasinSizes::states, -301);
    }

    /** "states stay as they were": those of the last good text, whatever was wrong and wherever. */
    private static void statesStay() {
        String[] bad = {"", "x", "h<1;x", "h=1;h=2;h=3;h=4;h=5;h=6;h=7", "h=1&h=1&h=1&h=1&h=1&h=1", "h=01", "h=1;",
            "h+h+h+h+h=1", "h=700&"};
        for (String text : bad) {
            Edges.Given twoThenBad = x -> {
                x.culvert(1000, 800, 20000, 100);
                Check.tell(x, "h>700&t=3;h>600;h=5");
                Check.tell(x, text);
            };
            EDGES.taken("states behind '" + text + "'", twoThenBad, x -> x.count(3), 3);
            EDGES.taken("first behind '" + text + "'", twoThenBad, x -> x.state(0, 701, 3, 0), 0);
            EDGES.taken("second behind '" + text + "'", twoThenBad, x -> x.state(0, 700, 3, 0), 1);
            EDGES.taken("third behind '" + text + "'", twoThenBad, x -> x.state(0, 5, 3, 0), 2);
            EDGES.taken("none behind '" + text + "'", twoThenBad, x -> x.state(0, 6, 3, 0), -1);
            EDGES.taken("head behind '" + text + "'", twoThenBad, x -> x.head(0, 1, 0, 0), 601);
            EDGES.taken("no fourth behind '" + text + "'", twoThenBad, x -> x.head(0, 3, 0, 0), -1);
        }
        Edges.Given fewer = x -> {
            x.culvert(1, 1, 1, 1);
            Check.tell(x, "h=1&t=1;h=2;h=3");
            Check.tell(x, "h=9");
        };
        EDGES.taken("fewer states", fewer, x -> x.count(3), 1);
        EDGES.taken("the new one", fewer, x -> x.state(0, 9, 9, 9), 0);
        EDGES.taken("the former first", fewer, x -> x.state(0, 1, 1, 1), -1);
        EDGES.taken("the former third", fewer, x -> x.state(0, 3, 3, 3), -1);
        EDGES.taken("head of a former one", fewer, x -> x.head(0, 1, 0, 0), -1);
    }

    /** Six states of five tests each, with blanks up to 300 signs. */
    private static void longestText() {
        StringBuilder text = new StringBuilder();
        for (int state = 0; state < 6; state++) {
            text.append(state == 0 ? "" : ";").append("1000h>2000&t<99999q+1&w-w-w<0&0=0&5-h+t=2").append(state);
        }
        good(text.toString(), 6);
        while (text.length() < 300) {
            text.append(' ');
        }
        good(text.toString(), 6);
        text.setCharAt(299, ';');
        wrong(text.toString(), 300);
        good(text.substring(0, 298) + "+h", 6);
        wrong(text.substring(0, 298) + "&0", 299);
    }

    /** "What was collected becomes the states": nothing of the texts before, good or wrong, is left in them. */
    private static void textsInTurn() {
        BasinSizes x = new BasinSizes();
        x.culvert(3, 4, 5, 6);
        for (int i = 1; i <= 10; i++) {
            CHECK.due("a long text " + i, Check.tell(x, "h+t+w=" + (i + 3) + "&q=1&q=1&q=1;h=9&t=9"), 2);
            CHECK.due("holds " + i, x.state(0, i, 0, 1), 0);
            CHECK.due("holds not " + i, x.state(0, i - 1, 0, 1), -1);
            CHECK.due("a short text " + i, Check.tell(x, "h=" + i), 1);
            CHECK.due("one state " + i, x.count(3), 1);
            CHECK.due("holds alone " + i, x.state(0, i, 9, 9), 0);
            CHECK.due("holds not alone " + i, x.state(0, i + 1, 0, 1), -1);
            CHECK.due("a wrong text " + i, Check.tell(x, "q=q&"), -5);
            CHECK.due("still holds alone " + i, x.head(0, 0, 0, 0), i);
        }
    }
}
