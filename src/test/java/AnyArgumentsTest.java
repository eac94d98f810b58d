/** No call throws, whatever its arguments and the state of the object: what is thrown here ends the test. */
public final class AnyArgumentsTest {
    private static final long[] EDGES = {0, 1, 2, 3, 5, 6, 7, 8, 20, 32, 40, 50, 60, 104, 126, 300, 400, 1000, 9999,
        10000, 20000, 100000, 1000000, 1L << 31, 1L << 32, 1L << 50, 1000000000000L, 1000000000000000L,
        Long.MAX_VALUE};
    private static final String SIGNS = "htwdlfq0123456789+-<>=&; ";

    private long seed = 7;

    public static void main(String[] args) {
        AnyArgumentsTest test = new AnyArgumentsTest();
        Check check = new Check("AnyArgumentsTest");
        for (int run = 0; run < 400; run++) {
            BasinSizes x = new BasinSizes();
            for (int call = 0; call < 300; call++) {
                test.call(x);
            }
            check.due("the object still answers", x.count(7), -1);
        }
        check.finish();
    }

    private int upTo(int most) {
        seed = seed * 6364136223846793005L + 1442695040888963407L;
        return (int) Long.remainderUnsigned(seed >>> 20, most + 1L);
    }

    private long any() {
        long edge = EDGES[upTo(EDGES.length - 1)];
        long near = edge + upTo(2) - 1;
        return upTo(3) == 0 ? -near : upTo(4) == 0 ? seed : near;
    }

    private int anyInt() {
        return (int) any();
    }

    private void call(BasinSizes x) {
        switch (upTo(21)) {
            case 0: x.rain(anyInt(), anyInt(), anyInt()); break;
            case 1: x.volume(anyInt(), anyInt(), anyInt()); break;
            case 2: x.by(anyInt(), anyInt(), anyInt()); break;
            case 3: x.outflow(anyInt(), anyInt(), any()); break;
            case 4: x.level(anyInt(), anyInt()); break;
            case 5: x.area(anyInt()); break;
            case 6: x.content(anyInt()); break;
            case 7: x.fill(any()); break;
            case 8: x.culvert(anyInt(), anyInt(), anyInt(), anyInt()); break;
            case 9: x.unit(anyInt()); break;
            case 10: Check.tell(x, "h>" + upTo(20000)); break;
            case 11: x.state(anyInt(), anyInt(), anyInt(), anyInt()); break;
            case 12: x.head(anyInt(), anyInt(), anyInt(), anyInt()); break;
            case 13: x.day(any()); break;
            case 14: x.run(any(), any()); break;
            case 15: x.behind(anyInt(), anyInt()); break;
            case 16: x.room(any(), anyInt()); break;
            case 17: x.way(anyInt()); break;
            case 18: x.stops(); break;
            case 19: x.count(anyInt()); break;
            case 20: x.states(); break;
            default: x.unit(SIGNS.charAt(upTo(SIGNS.length() - 1))); break;
        }
    }
}
