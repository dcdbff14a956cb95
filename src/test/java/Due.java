/** Counts the answers that are not as due and tells them; each test ends with its exit code. */
final class Due {
    private final String test;
    private final boolean isTold;
    private int asked = 0;
    private int wrong = 0;

    Due(String test) {
        this(test, true);
    }

    private Due(String test, boolean isTold) {
        this.test = test;
        this.isTold = isTold;
    }

    /** For answers that are meant to be wrong: they are counted alone. */
    static Due silent() {
        return new Due("", false);
    }

    void is(String call, long got, long want) {
        asked++;
        if (got != want) {
            wrong++;
            tell(call + " answered " + got + ", due is " + want);
        }
    }

    void is(String call, boolean got, boolean want) {
        is(call, got ? 1 : 0, want ? 1 : 0);
    }

    void is(String call, String got, String want) {
        asked++;
        if (!got.equals(want)) {
            wrong++;
            int at = firstDifference(got, want);
            tell(call + " answered .. " + around(got, at) + " .., due is .. " + around(want, at) + " ..");
        }
    }

    private static int firstDifference(String one, String other) {
        int at = 0;
        while (at < one.length() && at < other.length() && one.charAt(at) == other.charAt(at)) {
            at++;
        }
        return at;
    }

    private static String around(String text, int at) {
        return text.substring(Math.max(0, at - 20), Math.min(text.length(), at + 20));
    }

    void fail(String why) {
        asked++;
        wrong++;
        tell(why);
    }

    private void tell(String text) {
        if (isTold) {
            System.out.println(test + ": " + text);
        }
    }

    boolean hasWrong() {
        return wrong > 0;
    }

    int asked() {
        return asked;
    }

    int wrong() {
        return wrong;
    }

    /** What another one has counted counts here too. */
    void add(Due other) {
        asked += other.asked;
        wrong += other.wrong;
    }

    void end() {
        System.out.println(test + ": " + asked + " answers looked at, " + wrong + " not as due");
        if (wrong > 0 || asked == 0) {
            System.exit(1);
        }
    }
}
