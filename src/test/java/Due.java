/** Collects the answers that are not as due; a test ends with exit code 1 if there was one. */
final class Due {
    private static final int MOST_PRINTED = 20;

    private final String test;
    private int asked = 0;
    private int wrong = 0;

    /** What each line about a wrong answer begins with. */
    Due(String test) {
        this.test = test;
    }

    void same(String call, int got, int want) {
        asked++;
        if (got != want) {
            wrong(call + " answered " + got + ", due is " + want);
        }
    }

    void same(String call, boolean got, boolean want) {
        asked++;
        if (got != want) {
            wrong(call + " answered " + got + ", due is " + want);
        }
    }

    void same(String call, String got, String want) {
        asked++;
        if (!got.equals(want)) {
            wrong(call + " answered " + got + ", due is " + want);
        }
    }

    void none(String call, int got) {
        same(call, got, ClusterTool.NONE);
    }

    void wrong(String what) {
        wrong++;
        if (wrong <= MOST_PRINTED) {
            System.out.println(test + what);
        }
    }

    int asked() {
        return asked;
    }

    boolean isWrong() {
        return wrong > 0;
    }

    void end() {
        System.out.println(test + asked + " answers, " + wrong + " not as due");
        if (wrong > 0 || asked == 0) {
            System.exit(1);
        }
    }
}
