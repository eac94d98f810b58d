/** Compares answers with those that are due, and ends a test with exit code 1 if one was wrong. */
final class Check {
    private final String test;
    private int made = 0;
    private int wrong = 0;

    Check(String test) {
        this.test = test;
    }

    void due(String call, long got, long want) {
        made++;
        if (got != want) {
            wrong++;
            System.out.println(test + ": " + call + " answered " + got + ", due is " + want);
        }
    }

    void due(String call, boolean got, boolean want) {
        due(call, got ? 1 : 0, want ? 1 : 0);
    }

    void finish() {
        System.out.println(test + ": " + made + " checks, " + wrong + " wrong");
        if (wrong != 0) {
            System.exit(1);
        }
    }

    /** Collects all signs of a text. */
    static void collect(BasinSizes x, String text) {
        for (int i = 0; i < text.length(); i++) {
            x.unit(text.charAt(i));
        }
    }

    /** What states() answers for a text. */
    static int tell(BasinSizes x, String text) {
        collect(x, text);
        return x.states();
    }
}
