import java.math.BigInteger;
import java.util.ArrayList;
import java.util.List;
import java.util.regex.Matcher;
import java.util.regex.Pattern;

/**
 * Runs of many calls, each answer found a second time in the slowest and plainest way: all outflows,
 * levels, heads and rooms are tried one by one, and texts are read from tokens.
 */
public final class ModelTest {
    private static final Check CHECK = new Check("ModelTest");
    private static final int CALLS = 500;

    private long seed = 20261115;

    public static void main(String[] args) {
        ModelTest test = new ModelTest();
        for (int i = 0; i < 60; i++) {
            test.rains(i % 2 == 0);
            test.days(i % 3 != 0);
            test.ways();
        }
        for (int i = 0; i < 120; i++) {
            test.ponds(i % 12 == 0);
        }
        for (int i = 0; i < 400; i++) {
            test.texts();
        }
        for (int i = 0; i < 150; i++) {
            test.culverts(i % 3 == 0);
        }
        CHECK.finish();
    }

    /** A number of a row that is the same each time the test runs. */
    private int upTo(int least, int most) {
        seed = seed * 6364136223846793005L + 1442695040888963407L;
        return least + (int) Long.remainderUnsigned(seed >>> 20, (long) most - least + 1);
    }

    private boolean oneOf(int many) {
        return upTo(1, many) == 1;
    }

    // ---- rains

    private record Rain(int years, int minutes, int depth) {
        BigInteger need(int area, int outflow) {
            BigInteger comes = BigInteger.valueOf(depth).multiply(BigInteger.valueOf(area)).divide(BigInteger.TEN);
            return comes.subtract(BigInteger.valueOf(outflow).multiply(BigInteger.valueOf(60L * minutes)));
        }
    }

    private void rains(boolean small) {
        BasinSizes x = new BasinSizes();
        List<Rain> all = new ArrayList<>();
        for (int call = 0; call < 90; call++) {
            int years = upTo(0, 3);
            Rain last = null;
            int like = 0;
            for (Rain r : all) {
                if (r.years == years) {
                    last = r;
                    like++;
                }
            }
            int minutes = (last == null ? 0 : last.minutes) + upTo(0, small ? 5 : 900);
            int depth = last == null ? upTo(0, 3000)
                    : (int) ((long) last.depth * minutes / last.minutes) + upTo(-2, 1);
            boolean fits = years >= 1 && minutes >= 1 && minutes <= 10000 && depth >= 1 && depth <= 100000
                    && all.size() < 40
                    && (last == null || minutes > last.minutes && depth > last.depth
                            && (double) depth / minutes <= (double) last.depth / last.minutes);
            String name = "rain(" + years + ", " + minutes + ", " + depth + ")";
            CHECK.due(name, x.rain(years, minutes, depth), fits ? like + 1 : -1);
            if (fits) {
                all.add(new Rain(years, minutes, depth));
            }
        }
        CHECK.due("rains", x.count(0), all.size());
        for (int call = 0; call < 100; call++) {
            int years = upTo(0, 3);
            int area = small ? upTo(0, 50) : upTo(0, 1000000);
            int outflow = small ? upTo(0, 20) : upTo(0, 100000);
            askForVolume(x, all, years, area, outflow);
            askForOutflow(x, all, years, area, small ? upTo(0, 9000) : upTo(0, 2000000000));
        }
    }

    private static void askForVolume(BasinSizes x, List<Rain> all, int years, int area, int outflow) {
        long volume = -1;
        int by = -1;
        BigInteger most = null;
        for (Rain r : all) {
            if (r.years == years && (most == null || r.need(area, outflow).compareTo(most) > 0)) {
                most = r.need(area, outflow);
                volume = most.max(BigInteger.ZERO).longValueExact();
                by = r.minutes;
            }
        }
        String of = "(" + years + ", " + area + ", " + outflow + ")";
        CHECK.due("volume" + of, x.volume(years, area, outflow), volume);
        CHECK.due("by" + of, x.by(years, area, outflow), by);
    }

    private static void askForOutflow(BasinSizes x, List<Rain> all, int years, int area, long room) {
        int got = x.outflow(years, area, room);
        String name = "outflow(" + years + ", " + area + ", " + room + ") " + got;
        boolean any = false;
        for (Rain r : all) {
            any |= r.years == years;
        }
        if (!any) {
            CHECK.due(name, got, -1);
        } else if (got == -1) {
            CHECK.due(name + " none is enough", enough(all, years, area, 100000, room), false);
        } else {
            CHECK.due(name + " is enough", enough(all, years, area, got, room), true);
            CHECK.due(name + " is least", got > 0 && enough(all, years, area, got - 1, room), false);
        }
    }

    private static boolean enough(List<Rain> all, int years, int area, int outflow, long room) {
        for (Rain r : all) {
            if (r.years == years && r.need(area, outflow).compareTo(BigInteger.valueOf(room)) > 0) {
                return false;
            }
        }
        return true;
    }

    // ---- ponds

    private record Level(int mm, int area) {
    }

    private void ponds(boolean large) {
        BasinSizes x = new BasinSizes();
        List<Level> all = new ArrayList<>();
        int mm = large ? upTo(-100000, -90000) : upTo(-60, 60);
        int area = upTo(0, 3);
        int wanted = upTo(1, 24);
        for (int call = 0; call < wanted; call++) {
            mm += upTo(0, large ? 12000 : 25);
            area += oneOf(8) ? -1 : upTo(0, large ? 60000 : 30);
            Level last = all.isEmpty() ? null : all.get(all.size() - 1);
            boolean fits = mm >= -100000 && mm <= 100000 && area >= 0 && area <= 1000000 && all.size() < 20
                    && (last == null || mm > last.mm && area >= last.area);
            CHECK.due("level(" + mm + ", " + area + ")", x.level(mm, area), fits ? all.size() + 1 : -1);
            if (fits) {
                all.add(new Level(mm, area));
            }
        }
        if (all.isEmpty()) {
            return;
        }
        int first = all.get(0).mm;
        int last = all.get(all.size() - 1).mm;
        for (int call = 0; call < 120; call++) {
            int at = upTo(first - 2, last + 2);
            CHECK.due("area(" + at + ")", x.area(at), areaAt(all, at));
            CHECK.due("content(" + at + ")", x.content(at), contentAt(all, at));
        }
        for (int call = 0; call < (large ? 6 : 120); call++) {
            long water = contentAt(all, upTo(first, last)) + upTo(-1, 1);
            CHECK.due("fill(" + water + ")", x.fill(water), levelOf(all, water));
        }
    }

    private static int areaAt(List<Level> all, int mm) {
        for (int i = 0; i < all.size(); i++) {
            Level upper = all.get(i);
            if (upper.mm == mm) {
                return upper.area;
            }
            if (i > 0 && all.get(i - 1).mm < mm && mm < upper.mm) {
                Level lower = all.get(i - 1);
                long weighted = (long) lower.area * (upper.mm - mm) + (long) upper.area * (mm - lower.mm);
                return (int) (weighted / (upper.mm - lower.mm));
            }
        }
        return -1;
    }

    private static long contentAt(List<Level> all, int mm) {
        int area = areaAt(all, mm);
        if (area < 0) {
            return -1;
        }
        long tenths = 0;
        for (int i = 0; i < all.size() && all.get(i).mm < mm; i++) {
            Level lower = all.get(i);
            Level upper = all.get(i + 1);
            boolean whole = upper.mm <= mm;
            long areas = lower.area + (whole ? upper.area : area);
            tenths += areas * ((whole ? upper.mm : mm) - lower.mm) * 10 / 2;
        }
        return tenths;
    }

    private static int levelOf(List<Level> all, long water) {
        int last = all.get(all.size() - 1).mm;
        if (water < 0 || contentAt(all, last) < water) {
            return -1000000;
        }
        for (int mm = last; mm >= all.get(0).mm; mm--) {
            if (contentAt(all, mm) <= water) {
                return mm;
            }
        }
        return -1000000;
    }

    // ---- texts

    private record Term(boolean less, int number, char letter) {
    }

    private static final class OneTest {
        final List<Term> left = new ArrayList<>();
        final List<Term> right = new ArrayList<>();
        char relation = ' ';
    }

    /** What a text tells, or the number of its first wrong sign. */
    private static final class Told {
        private static final Pattern TOKEN = Pattern.compile("[0-9]+|[^ ]");

        final List<List<OneTest>> states = new ArrayList<>();
        int wrong = -1;

        Told(String text) {
            List<String> tokens = new ArrayList<>();
            List<Integer> places = new ArrayList<>();
            Matcher m = TOKEN.matcher(text);
            while (m.find()) {
                tokens.add(m.group());
                places.add(m.start());
            }
            tokens.add("end");
            places.add(text.length());
            int bad = firstWrong(tokens);
            if (bad >= 0) {
                wrong = places.get(bad);
            }
        }

        private int firstWrong(List<String> tokens) {
            OneTest test = null;
            char before = ';';
            int i = 0;
            while (true) {
                // A state, test or term begins here.
                if (before == ';') {
                    if (states.size() == 6) return i;
                    states.add(new ArrayList<>());
                }
                if (before == ';' || before == '&') {
                    if (states.get(states.size() - 1).size() == 5) return i;
                    test = new OneTest();
                    states.get(states.size() - 1).add(test);
                }
                boolean onTheLeft = test.relation == ' ';
                List<Term> sum = onTheLeft ? test.left : test.right;
                if (sum.size() == 4) return i;
                int start = i;
                String number = "1";
                if (tokens.get(i).matches("[0-9]+")) {
                    number = tokens.get(i);
                    if (!number.matches("0|[1-9][0-9]{0,4}")) return i;
                    i++;
                }
                boolean lettered = tokens.get(i).matches("[htwdlfq]");
                if (!lettered && i == start) return i;
                if (lettered && number.equals("0")) return start;
                char letter = lettered ? tokens.get(i).charAt(0) : '1';
                if (lettered) i++;
                sum.add(new Term(before == '-', Integer.parseInt(number), letter));
                String next = tokens.get(i);
                if (next.equals("end")) return onTheLeft ? i : -1;
                before = next.charAt(0);
                if (!(onTheLeft ? next.matches("[-+<>=]") : next.matches("[-+&;]"))) return i;
                if (next.matches("[<>=]")) test.relation = before;
                i++;
            }
        }
    }

    private static final String[] GOOD_SIGNS = {"h", "t", "w", "d", "l", "f", "q"};

    private String someNumber() {
        if (oneOf(12)) return "0";
        if (oneOf(40)) return "0" + upTo(0, 99);
        if (oneOf(60)) return "" + upTo(99999, 100001);
        return "" + upTo(1, oneOf(4) ? 99999 : 30);
    }

    private String blanks() {
        return oneOf(5) ? oneOf(3) ? "  " : " " : "";
    }

    private String someSum(int most, boolean careful) {
        StringBuilder b = new StringBuilder();
        int terms = upTo(1, most);
        for (int i = 0; i < terms; i++) {
            if (i > 0) {
                b.append(oneOf(2) ? "+" : "-").append(blanks());
            }
            String letter = GOOD_SIGNS[upTo(0, 6)];
            int form = upTo(0, 2);
            String number = careful ? "" + upTo(1, oneOf(5) ? 99999 : 9) : someNumber();
            b.append(form == 0 ? letter : form == 1 ? number : number + blanks() + letter).append(blanks());
        }
        return b.toString();
    }

    private String someText(int states, int tests, int terms, boolean careful) {
        StringBuilder b = new StringBuilder(blanks());
        int many = upTo(1, states);
        for (int s = 0; s < many; s++) {
            int inIt = upTo(1, tests);
            for (int t = 0; t < inIt; t++) {
                b.append(t > 0 ? "&" : s > 0 ? ";" : "").append(blanks());
                b.append(someSum(terms, careful)).append("<>=".charAt(upTo(0, 2)));
                b.append(blanks()).append(someSum(terms, careful));
            }
        }
        return b.toString();
    }

    private String spoilt(String text) {
        String signs = "htwdlfq0019+-<>=&; xH~.";
        StringBuilder b = new StringBuilder(text);
        int place = upTo(0, Math.max(0, b.length() - 1));
        switch (upTo(0, 3)) {
            case 0:
                b.insert(place, signs.charAt(upTo(0, signs.length() - 1)));
                break;
            case 1:
                b.deleteCharAt(place);
                break;
            case 2:
                b.setCharAt(place, signs.charAt(upTo(0, signs.length() - 1)));
                break;
            default:
                b.setLength(place);
                break;
        }
        return b.toString();
    }

    private void texts() {
        BasinSizes x = new BasinSizes();
        int calls = 0;
        int kept = 0;
        for (int i = 0; i < 60; i++) {
            int form = upTo(0, 5);
            String text = form == 0 ? someText(7, 1, 1, false) : form == 1 ? someText(1, 6, 1, false)
                    : form == 2 ? someText(1, 1, 5, false) : someText(2, 2, 2, oneOf(2));
            if (oneOf(2)) {
                text = spoilt(text);
            }
            calls += text.length() + 2;
            if (text.length() > 300 || calls > CALLS) {
                return;
            }
            Told due = new Told(text);
            if (due.wrong < 0) {
                kept = due.states.size();
            }
            CHECK.due("states() of '" + text + "'", Check.tell(x, text),
                    due.wrong < 0 ? due.states.size() : -1 - due.wrong);
            CHECK.due("states behind '" + text + "'", x.count(3), kept);
        }
    }

    // ---- culverts

    private static long sum(List<Term> terms, long[] values) {
        long sum = 0;
        for (Term term : terms) {
            long value = term.letter == '1' ? 1 : values["htwdlfq".indexOf(term.letter)];
            sum += (term.less ? -1 : 1) * term.number * value;
        }
        return sum;
    }

    private static int stateOf(Told told, long[] values) {
        for (int s = 0; s < told.states.size(); s++) {
            boolean all = true;
            for (OneTest test : told.states.get(s)) {
                long left = sum(test.left, values);
                long right = sum(test.right, values);
                all &= test.relation == '<' ? left < right : test.relation == '>' ? left > right : left == right;
            }
            if (all) {
                return s;
            }
        }
        return -1;
    }

    private void culverts(boolean great) {
        BasinSizes x = new BasinSizes();
        int[] c = great ? new int[] {upTo(1, 10000), upTo(1, 10000), upTo(1, 100000), upTo(0, 10000)}
                : new int[] {upTo(1, 90), upTo(1, 90), upTo(1, 90), upTo(0, 90)};
        CHECK.due("culvert", x.culvert(c[0], c[1], c[2], c[3]), 0);
        String text = someText(6, 2, 2, true);
        Told told = new Told(text);
        CHECK.due("told '" + text + "'", Check.tell(x, text), told.states.size());
        int most = great ? 20000 : 90;
        for (int call = 0; call < 60; call++) {
            int h = upTo(0, most);
            int t = upTo(0, most);
            int q = upTo(0, most);
            long[] values = {h, t, c[0], c[1], c[2], c[3], q};
            CHECK.due("state of '" + text + "' at " + h + " " + t + " " + q, x.state(0, h, t, q), stateOf(told, values));
        }
        for (int call = 0; call < 3; call++) {
            int t = upTo(0, most);
            int q = upTo(0, most);
            int[] least = {-1, -1, -1, -1, -1, -1};
            for (int h = 20000; h >= 0; h--) {
                int state = stateOf(told, new long[] {h, t, c[0], c[1], c[2], c[3], q});
                if (state >= 0) {
                    least[state] = h;
                }
            }
            for (int state = 0; state < 6; state++) {
                CHECK.due("head of " + state + " of '" + text + "' at " + t + " " + q, x.head(0, state, t, q), least[state]);
            }
        }
    }

    // ---- days

    private void days(boolean small) {
        BasinSizes x = new BasinSizes();
        List<Long> all = new ArrayList<>();
        int many = upTo(0, 40);
        for (int i = 0; i < many; i++) {
            long water = oneOf(3) ? 0 : small ? upTo(0, 12) : upTo(0, 1000000) * 1000000L + upTo(0, 1);
            boolean fits = water <= 1000000000000L;
            CHECK.due("day(" + water + ")", x.day(water), fits ? all.size() + 1 : -1);
            if (fits) {
                all.add(water);
            }
        }
        for (int call = 0; call < 10; call++) {
            long outflow = small ? upTo(0, 9) : upTo(0, 600000) * 1000000L;
            long room = small ? upTo(0, 30) : upTo(0, 3000000) * 1000000L;
            CHECK.due("run(" + outflow + ", " + room + ")", x.run(outflow, room), overflowing(all, outflow, room, x));
            int days = upTo(0, 12);
            long got = x.room(outflow, days);
            String name = "room(" + outflow + ", " + days + ")";
            CHECK.due("no run behind " + name, x.behind(0, 0), -1);
            if (small) {
                long least = 0;
                while (overflowing(all, outflow, least, null) > days) {
                    least++;
                }
                CHECK.due(name, got, least);
            } else {
                CHECK.due(name + " is enough", overflowing(all, outflow, got, null) <= days, true);
                CHECK.due(name + " is least", got > 0 && overflowing(all, outflow, got - 1, null) <= days, false);
            }
        }
    }

    /** How many days overflow; what an object tells of some of its days is looked at too. */
    private int overflowing(List<Long> all, long outflow, long room, BasinSizes ran) {
        long held = 0;
        long lost = 0;
        int days = 0;
        for (int i = 0; i < all.size(); i++) {
            long water = held + all.get(i);
            long left = water > outflow ? water - outflow : 0;
            held = left > room ? room : left;
            lost += left - held;
            days += left > held ? 1 : 0;
            if (ran != null && oneOf(4)) {
                CHECK.due("behind(" + i + ", 0)", ran.behind(i, 0), held);
                CHECK.due("behind(" + i + ", 1)", ran.behind(i, 1), water - left);
                CHECK.due("behind(" + i + ", 2)", ran.behind(i, 2), left - held);
                CHECK.due("behind(" + i + ", 3)", ran.behind(i, 3), lost);
            }
        }
        return days;
    }

    // ---- ways

    private void ways() {
        BasinSizes x = new BasinSizes();
        int mm = upTo(-100000, 100000);
        int before = 0;
        int stops = -1;
        int many = 0;
        for (int call = 0; call < 60; call++) {
            mm += oneOf(30) ? upTo(0, 1) : -upTo(1, 3000);
            boolean fits = mm >= -100000 && mm <= 100000 && many < 50;
            CHECK.due("way(" + mm + ")", x.way(mm), fits ? many + 1 : -1);
            if (fits) {
                if (many > 0 && stops < 0 && mm >= before) {
                    stops = many;
                }
                before = mm;
                many++;
            }
            CHECK.due("stops()", x.stops(), stops);
        }
    }
}
