/**
 * Basins and culverts of a road. Amounts of water are whole tenths of a litre, levels are mm,
 * areas square metres, outflows of basins tenths of a litre a second.
 */
public final class BasinSizes {
    public static final int BAD = -1;

    private static final int NO_LEVEL = -1_000_000;

    private static final int MAX_RAINS = 40;
    private static final int MAX_LEVELS = 20;
    private static final int MAX_CULVERTS = 8;
    private static final int MAX_SIGNS = 300;
    private static final int MAX_STATES = 6;
    private static final int MAX_TESTS = 5;
    private static final int MAX_TERMS = 4;
    private static final int MAX_DIGITS = 5;
    private static final int MAX_DAYS = 400;
    private static final int MAX_PLACES = 50;

    private static final int MOST_YEARS = 1_000;
    private static final int MOST_MINUTES = 10_000;
    private static final int MOST_DEPTH = 100_000;
    private static final int MOST_AREA = 1_000_000;
    private static final int MOST_OUTFLOW = 100_000;
    private static final long MOST_BASIN_ROOM = 1L << 50;
    private static final int MOST_MM = 100_000;
    private static final int MOST_MEASURE = 10_000;
    private static final int MOST_LENGTH = 100_000;
    private static final int MOST_WATER_OR_FLOW = 20_000;
    private static final long MOST_A_DAY = 1_000_000_000_000L;
    private static final long MOST_OF_A_RUN = 1_000_000_000_000_000L;

    /** The letters of a text, each at the column of its factor; behind them all is the column of plain numbers. */
    private static final String LETTERS = "htwdlfq";
    private static final int H = 0;
    private static final int T = 1;
    private static final int W = 2;
    private static final int D = 3;
    private static final int L = 4;
    private static final int F = 5;
    private static final int Q = 6;
    private static final int PLAIN = 7;
    private static final int COLUMNS = 8;

    private final RainRows rains = new RainRows();
    private final Pond pond = new Pond();
    private final CulvertRows culverts = new CulvertRows();
    private final SignReader text = new SignReader();
    private StateRows told = new StateRows();
    private StateRows draft = new StateRows();
    private final DayRows days = new DayRows();
    private final SafeWay places = new SafeWay();

    public BasinSizes() {
    }

    public int rain(int years, int minutes, int depth) {
        if (!within(years, 1, MOST_YEARS) || !within(minutes, 1, MOST_MINUTES) || !within(depth, 1, MOST_DEPTH)) {
            return BAD;
        }
        return rains.add(years, minutes, depth);
    }

    public long volume(int years, int area, int outflow) {
        int most = neediestRain(years, area, outflow);
        return most == BAD ? BAD : Math.max(0, rains.need(most, area, outflow));
    }

    public int by(int years, int area, int outflow) {
        int most = neediestRain(years, area, outflow);
        return most == BAD ? BAD : rains.minutesOf(most);
    }

    public int outflow(int years, int area, long room) {
        if (!within(area, 0, MOST_AREA) || !within(room, 0, MOST_BASIN_ROOM)) {
            return BAD;
        }
        long least = rains.leastOutflow(years, area, room);
        return within(least, 0, MOST_OUTFLOW) ? (int) least : BAD;
    }

    public int level(int mm, int area) {
        if (!within(mm, -MOST_MM, MOST_MM) || !within(area, 0, MOST_AREA)) {
            return BAD;
        }
        return pond.add(mm, area);
    }

    public int area(int mm) {
        return pond.reaches(mm) ? pond.areaAt(mm) : BAD;
    }

    public long content(int mm) {
        return pond.reaches(mm) ? pond.contentAt(mm) : BAD;
    }

    public int fill(long water) {
        return pond.levelOf(water);
    }

    public int culvert(int width, int height, int length, int fall) {
        if (!within(width, 1, MOST_MEASURE) || !within(height, 1, MOST_MEASURE)
                || !within(length, 1, MOST_LENGTH) || !within(fall, 0, MOST_MEASURE)) {
            return BAD;
        }
        return culverts.add(width, height, length, fall);
    }

    public boolean unit(int u) {
        return within(u, ' ', '~') && text.collect((char) u);
    }

    public int states() {
        boolean good = text.readStates(draft);
        int answer = good ? draft.size() : -1 - text.position();
        if (good) {
            StateRows former = told;
            told = draft;
            draft = former;
        }
        text.clear();
        return answer;
    }

    public int state(int culvert, int h, int t, int q) {
        if (!culverts.has(culvert) || !isWaterOrFlow(h) || !isWaterOrFlow(t) || !isWaterOrFlow(q)) {
            return BAD;
        }
        told.findSpans(culverts.valuesFor(culvert, t, q));
        return told.firstAt(h);
    }

    public int head(int culvert, int state, int t, int q) {
        if (!culverts.has(culvert) || !within(state, 0, told.size() - 1) || !isWaterOrFlow(t) || !isWaterOrFlow(q)) {
            return BAD;
        }
        told.findSpans(culverts.valuesFor(culvert, t, q));
        return told.leastHead(state);
    }

    public int day(long water) {
        return within(water, 0, MOST_A_DAY) ? days.add(water) : BAD;
    }

    public int run(long outflow, long room) {
        if (!within(outflow, 0, MOST_OF_A_RUN) || !within(room, 0, MOST_OF_A_RUN)) {
            return BAD;
        }
        return days.keepRun(outflow, room);
    }

    public long behind(int day, int what) {
        return days.recall(day, what);
    }

    public long room(long outflow, int days) {
        if (!within(outflow, 0, MOST_OF_A_RUN) || !within(days, 0, MAX_DAYS)) {
            return BAD;
        }
        return this.days.leastRoom(outflow, days);
    }

    public int way(int mm) {
        return within(mm, -MOST_MM, MOST_MM) ? places.add(mm) : BAD;
    }

    public int stops() {
        return places.firstNotBelow();
    }

    public int count(int what) {
        switch (what) {
            case 0:
                return rains.size();
            case 1:
                return pond.size();
            case 2:
                return culverts.size();
            case 3:
                return told.size();
            case 4:
                return days.size();
            case 5:
                return places.size();
            case 6:
                return text.size();
            default:
                return BAD;
        }
    }

    private int neediestRain(int years, int area, int outflow) {
        if (!within(area, 0, MOST_AREA) || !within(outflow, 0, MOST_OUTFLOW)) {
            return BAD;
        }
        return rains.neediest(years, area, outflow);
    }

    private static boolean within(long number, long least, long most) {
        return least <= number && number <= most;
    }

    private static boolean isWaterOrFlow(int number) {
        return within(number, 0, MOST_WATER_OR_FLOW);
    }

    /** The rains of all years, in the order in which they came. */
    private static final class RainRows {
        private final int[] years = new int[MAX_RAINS];
        private final int[] minutes = new int[MAX_RAINS];
        private final int[] depths = new int[MAX_RAINS];
        private int used = 0;

        int size() {
            return used;
        }

        int minutesOf(int rain) {
            return within(rain, 0, used - 1) ? minutes[rain] : BAD;
        }

        int add(int ofYears, int itsMinutes, int itsDepth) {
            if (used >= MAX_RAINS) {
                return BAD;
            }
            int like = 0;
            int last = BAD;
            for (int i = 0; i < used; i++) {
                if (years[i] == ofYears) {
                    like++;
                    last = i;
                }
            }
            if (last != BAD && !mayFollow(last, itsMinutes, itsDepth)) {
                return BAD;
            }
            years[used] = ofYears;
            minutes[used] = itsMinutes;
            depths[used] = itsDepth;
            used++;
            return like + 1;
        }

        private boolean mayFollow(int last, int itsMinutes, int itsDepth) {
            boolean rises = itsMinutes > minutes[last] && itsDepth > depths[last];
            // Depths by minutes are compared crosswise, so that nothing is cut off.
            boolean stronger = (long) itsDepth * minutes[last] > (long) depths[last] * itsMinutes;
            return rises && !stronger;
        }

        /** What a basin needs for a rain; less than 0 if more goes out than comes. */
        long need(int rain, int area, int outflow) {
            return comes(rain, area) - (long) outflow * secondsOf(rain);
        }

        private long comes(int rain, int area) {
            return (long) depths[rain] * area / 10;
        }

        private long secondsOf(int rain) {
            return 60L * minutes[rain];
        }

        /** The first rain of some years that needs most, or BAD if they have none. */
        int neediest(int ofYears, int area, int outflow) {
            int best = BAD;
            long most = 0;
            for (int i = 0; i < used; i++) {
                if (years[i] != ofYears) {
                    continue;
                }
                long need = need(i, area, outflow);
                if (best == BAD || need > most) {
                    best = i;
                    most = need;
                }
            }
            return best;
        }

        /** The least outflow, however great, that leaves no more than a room behind; BAD without a rain. */
        long leastOutflow(int ofYears, int area, long room) {
            long least = BAD;
            for (int i = 0; i < used; i++) {
                if (years[i] == ofYears) {
                    least = Math.max(least, leastOutflowFor(i, area, room));
                }
            }
            return least;
        }

        private long leastOutflowFor(int rain, int area, long room) {
            long above = comes(rain, area) - room;
            long seconds = secondsOf(rain);
            if (above <= 0 || seconds <= 0) {
                return 0;
            }
            return (above + seconds - 1) / seconds;
        }
    }

    /** A pond: rising levels with areas that do not fall. */
    private static final class Pond {
        /** Half of what a square metre holds in a mm, as two areas are added where their half sum is meant. */
        private static final long HALF_A_MM = 5;
        /** More than it takes to halve all levels there can be down to one. */
        private static final int HALVINGS = 20;

        private final int[] levels = new int[MAX_LEVELS];
        private final int[] areas = new int[MAX_LEVELS];
        private final long[] contents = new long[MAX_LEVELS];
        private int used = 0;

        int size() {
            return used;
        }

        int add(int mm, int area) {
            if (used >= MAX_LEVELS) {
                return BAD;
            }
            long content = 0;
            if (used > 0) {
                int last = used - 1;
                if (mm <= levels[last] || area < areas[last]) {
                    return BAD;
                }
                content = contents[last] + between(areas[last], area, mm - levels[last]);
            }
            levels[used] = mm;
            areas[used] = area;
            contents[used] = content;
            used++;
            return used;
        }

        private static long between(long lowerArea, long upperArea, long distance) {
            return (lowerArea + upperArea) * distance * HALF_A_MM;
        }

        boolean reaches(int mm) {
            return used > 0 && levels[0] <= mm && mm <= levels[used - 1];
        }

        /** The area at a level that the pond reaches. */
        int areaAt(int mm) {
            int lower = lastUpTo(mm);
            int upper = lower + 1;
            if (upper >= used) {
                return areas[lower];
            }
            long distance = (long) levels[upper] - levels[lower];
            if (distance <= 0) {
                return areas[lower];
            }
            long widening = (long) areas[upper] - areas[lower];
            return areas[lower] + (int) (widening * (mm - levels[lower]) / distance);
        }

        /** The content up to a level that the pond reaches. */
        long contentAt(int mm) {
            int lower = lastUpTo(mm);
            return contents[lower] + between(areas[lower], areaAt(mm), mm - levels[lower]);
        }

        private int lastUpTo(int mm) {
            int last = 0;
            for (int i = 1; i < used; i++) {
                if (levels[i] <= mm) {
                    last = i;
                }
            }
            return last;
        }

        /** The greatest level with no more than some water below it: contents never fall, so halving finds it. */
        int levelOf(long water) {
            if (used == 0 || !within(water, 0, contents[used - 1])) {
                return NO_LEVEL;
            }
            int low = levels[0];
            int high = levels[used - 1];
            for (int i = 0; i < HALVINGS && low < high; i++) {
                int middle = low + (high - low + 1) / 2;
                if (contentAt(middle) <= water) {
                    low = middle;
                } else {
                    high = middle - 1;
                }
            }
            return low;
        }
    }

    /** The culverts, each as the values that the letters of a text have for it. */
    private static final class CulvertRows {
        private final int[] widths = new int[MAX_CULVERTS];
        private final int[] heights = new int[MAX_CULVERTS];
        private final int[] lengths = new int[MAX_CULVERTS];
        private final int[] falls = new int[MAX_CULVERTS];
        private final int[] values = new int[COLUMNS];
        private int used = 0;

        int size() {
            return used;
        }

        boolean has(int which) {
            return within(which, 0, used - 1);
        }

        int add(int width, int height, int length, int fall) {
            if (used >= MAX_CULVERTS) {
                return BAD;
            }
            widths[used] = width;
            heights[used] = height;
            lengths[used] = length;
            falls[used] = fall;
            used++;
            return used - 1;
        }

        /** The values of all columns but that of h, which stays 0; the row is the same one in all calls. */
        int[] valuesFor(int which, int t, int q) {
            values[T] = t;
            values[Q] = q;
            values[PLAIN] = 1;
            if (has(which)) {
                values[W] = widths[which];
                values[D] = heights[which];
                values[L] = lengths[which];
                values[F] = falls[which];
            }
            return values;
        }
    }

    /** States that a text told: each test is kept as its left sum less its right one, a factor a column. */
    private static final class StateRows {
        private final int[] ends = new int[MAX_STATES];
        private final char[] relations = new char[MAX_STATES * MAX_TESTS];
        private final int[][] factors = new int[MAX_STATES * MAX_TESTS][COLUMNS];
        // As sums are straight lines in h, all h of a state lie in one span without a gap.
        private final long[] lows = new long[MAX_STATES];
        private final long[] highs = new long[MAX_STATES];
        private int used = 0;
        private int tests = 0;

        int size() {
            return used;
        }

        void clear() {
            used = 0;
            tests = 0;
        }

        void beginTest() {
            if (tests < factors.length) {
                for (int i = 0; i < COLUMNS; i++) {
                    factors[tests][i] = 0;
                }
            }
        }

        void addTerm(int column, int factor) {
            if (tests < factors.length && 0 <= column && column < COLUMNS) {
                factors[tests][column] += factor;
            }
        }

        void endTest(char relation) {
            if (tests < relations.length) {
                relations[tests] = relation;
                tests++;
            }
        }

        void endState() {
            if (used < MAX_STATES) {
                ends[used] = tests;
                used++;
            }
        }

        /** Finds the span of h of each state, whatever the states before it, for the values of the other columns. */
        void findSpans(int[] values) {
            int test = 0;
            for (int state = 0; state < used; state++) {
                lows[state] = 0;
                highs[state] = MOST_WATER_OR_FLOW;
                for (; test < ends[state]; test++) {
                    narrowByTest(state, test, values);
                }
            }
        }

        private void narrowByTest(int state, int test, int[] values) {
            long slope = factors[test][H];
            long rest = 0;
            for (int i = H + 1; i < COLUMNS && i < values.length; i++) {
                rest += (long) factors[test][i] * values[i];
            }
            char relation = relations[test];
            // In whole numbers a sum is below 0 if it is at most - 1.
            long most = relation == '=' ? 0 : -1;
            if (relation != '>') {
                narrow(state, slope, most - rest);
            }
            if (relation != '<') {
                narrow(state, -slope, most + rest);
            }
        }

        /** Leaves those h of a state for which slope * h is at most a number. */
        private void narrow(int state, long slope, long most) {
            if (slope > 0) {
                highs[state] = Math.min(highs[state], Math.floorDiv(most, slope));
            } else if (slope < 0) {
                lows[state] = Math.max(lows[state], -Math.floorDiv(most, -slope));
            } else if (most < 0) {
                highs[state] = -1;
            }
        }

        private boolean spans(int state, long h) {
            return lows[state] <= h && h <= highs[state];
        }

        /** The first state that spans h, or BAD. */
        int firstAt(int h) {
            for (int state = 0; state < used; state++) {
                if (spans(state, h)) {
                    return state;
                }
            }
            return BAD;
        }

        /** The least h for which a state is the first that spans it, or BAD. */
        int leastHead(int wanted) {
            if (!within(wanted, 0, used - 1)) {
                return BAD;
            }
            long h = lows[wanted];
            // h only rises, so it leaves each earlier span at most once: as many rounds are enough.
            for (int round = 0; round < wanted; round++) {
                for (int state = 0; state < wanted; state++) {
                    if (spans(state, h)) {
                        h = highs[state] + 1;
                    }
                }
            }
            return h <= highs[wanted] ? (int) h : BAD;
        }
    }

    /** The signs collected, and their reading; where a reading answers false, it stands at the wrong sign. */
    private static final class SignReader {
        private static final char END = 0;

        private final char[] signs = new char[MAX_SIGNS];
        private int used = 0;
        private int at = 0;

        int size() {
            return used;
        }

        int position() {
            return at;
        }

        void clear() {
            used = 0;
        }

        boolean collect(char sign) {
            if (used >= MAX_SIGNS) {
                return false;
            }
            signs[used] = sign;
            used++;
            return true;
        }

        boolean readStates(StateRows into) {
            at = 0;
            into.clear();
            for (int i = 0; i < MAX_STATES; i++) {
                if (!readTests(into)) {
                    return false;
                }
                into.endState();
                char sign = toNextSign();
                if (sign == END) {
                    return true;
                }
                if (sign != ';') {
                    return false;
                }
                at++;
            }
            return standAtOneTooMany();
        }

        private boolean readTests(StateRows into) {
            for (int i = 0; i < MAX_TESTS; i++) {
                if (!readTest(into)) {
                    return false;
                }
                if (toNextSign() != '&') {
                    return true;
                }
                at++;
            }
            return standAtOneTooMany();
        }

        private boolean readTest(StateRows into) {
            into.beginTest();
            if (!readSum(into, 1)) {
                return false;
            }
            char relation = toNextSign();
            if (relation != '<' && relation != '>' && relation != '=') {
                return false;
            }
            at++;
            if (!readSum(into, -1)) {
                return false;
            }
            into.endTest(relation);
            return true;
        }

        private boolean readSum(StateRows into, int side) {
            int direction = side;
            for (int i = 0; i < MAX_TERMS; i++) {
                if (!readTerm(into, direction)) {
                    return false;
                }
                char sign = toNextSign();
                if (sign != '+' && sign != '-') {
                    return true;
                }
                direction = sign == '+' ? side : -side;
                at++;
            }
            return standAtOneTooMany();
        }

        private boolean readTerm(StateRows into, int direction) {
            toNextSign();
            int start = at;
            int number = readNumber();
            boolean numbered = at > start;
            int column = LETTERS.indexOf(toNextSign());
            boolean lettered = column >= 0;
            if (!numbered && !lettered) {
                return false;
            }
            if (number == BAD || (lettered && number == 0)) {
                at = start;
                return false;
            }
            into.addTerm(lettered ? column : PLAIN, direction * number);
            if (lettered) {
                at++;
            }
            return true;
        }

        /** The number that begins here: 1 if none does, as a letter alone counts once; BAD if it may not be. */
        private int readNumber() {
            int start = at;
            int number = 0;
            for (; at < used && '0' <= signs[at] && signs[at] <= '9'; at++) {
                if (at - start < MAX_DIGITS) {
                    number = 10 * number + (signs[at] - '0');
                }
            }
            int digits = at - start;
            if (digits == 0) {
                return 1;
            }
            boolean zeroInFront = digits > 1 && signs[start] == '0';
            return digits > MAX_DIGITS || zeroInFront ? BAD : number;
        }

        private boolean standAtOneTooMany() {
            toNextSign();
            return false;
        }

        private char toNextSign() {
            while (at < used && signs[at] == ' ') {
                at++;
            }
            return at < used ? signs[at] : END;
        }
    }

    /** What comes on each day, and what the last run made of it. */
    private static final class DayRows {
        /** More than it takes to halve all rooms up to what can come on all days down to one. */
        private static final int HALVINGS = 60;

        private final long[] coming = new long[MAX_DAYS];
        private final long[] held = new long[MAX_DAYS];
        private final long[] gone = new long[MAX_DAYS];
        private final long[] above = new long[MAX_DAYS];
        private final long[] aboveSoFar = new long[MAX_DAYS];
        private int used = 0;
        private long allComing = 0;
        private boolean hasRun = false;

        int size() {
            return used;
        }

        int add(long water) {
            if (used >= MAX_DAYS) {
                return BAD;
            }
            coming[used] = water;
            allComing += water;
            used++;
            hasRun = false;
            return used;
        }

        int keepRun(long outflow, long room) {
            hasRun = true;
            return goThrough(outflow, room);
        }

        /** Fills the rows of all days: how many overflow. */
        private int goThrough(long outflow, long room) {
            long water = 0;
            long lost = 0;
            int overflowing = 0;
            for (int i = 0; i < used; i++) {
                water += coming[i];
                gone[i] = Math.min(water, outflow);
                water -= gone[i];
                above[i] = Math.max(0, water - room);
                water -= above[i];
                held[i] = water;
                lost += above[i];
                aboveSoFar[i] = lost;
                if (above[i] > 0) {
                    overflowing++;
                }
            }
            return overflowing;
        }

        long recall(int day, int what) {
            if (!hasRun || !within(day, 0, used - 1)) {
                return BAD;
            }
            switch (what) {
                case 0:
                    return held[day];
                case 1:
                    return gone[day];
                case 2:
                    return above[day];
                case 3:
                    return aboveSoFar[day];
                default:
                    return BAD;
            }
        }

        /** The least room for at most some overflowing days: a greater room never has more, so halving finds it. */
        long leastRoom(long outflow, int most) {
            hasRun = false;
            long low = 0;
            long high = allComing;
            for (int i = 0; i < HALVINGS && low < high; i++) {
                long middle = low + (high - low) / 2;
                if (goThrough(outflow, middle) <= most) {
                    high = middle;
                } else {
                    low = middle + 1;
                }
            }
            return low;
        }
    }

    /** The safe way: places with their levels. */
    private static final class SafeWay {
        private final int[] levels = new int[MAX_PLACES];
        private int used = 0;

        int size() {
            return used;
        }

        int add(int mm) {
            if (used >= MAX_PLACES) {
                return BAD;
            }
            levels[used] = mm;
            used++;
            return used;
        }

        int firstNotBelow() {
            for (int i = 1; i < used; i++) {
                if (levels[i] >= levels[i - 1]) {
                    return i;
                }
            }
            return BAD;
        }
    }
}
