/** Runs the tests of one promise and counts answers that are not the ones that are due. */
final class Check {
    static final int LEAST = Integer.MIN_VALUE;
    static final int MOST = Integer.MAX_VALUE;

    /** A test of its own: it makes its own objects. */
    interface Test {
        void run(Check c);
    }

    private static final long MOST_MILLIS = 120_000;

    private final String name;
    private volatile String test = "";
    private int wrong = 0;
    private int asked = 0;
    private int tests = 0;

    Check(String name) {
        this.name = name;
        Thread watch = new Thread(this::endLate);
        watch.setDaemon(true);
        watch.start();
    }

    /** A call that never ends must fail its test, not hold it up. */
    private void endLate() {
        try {
            Thread.sleep(MOST_MILLIS);
        } catch (InterruptedException e) {
            return;
        }
        System.out.println(name + " / " + test + ": does not end");
        Runtime.getRuntime().halt(1);
    }

    void test(String sentence, Test body) {
        test = sentence;
        int before = asked;
        body.run(this);
        tests++;
        if (asked == before) {
            fault("asked nothing");
        }
    }

    private void fault(String text) {
        wrong++;
        System.out.println(name + " / " + test + ": " + text);
    }

    void due(String what, long got, long want) {
        asked++;
        if (got != want) {
            fault(what + " answered " + got + ", due is " + want);
        }
    }

    void due(String what, boolean got, boolean want) {
        due(what, got ? 1 : 0, want ? 1 : 0);
    }

    void same(String what, String got, String want) {
        asked++;
        if (!got.equals(want)) {
            fault(what + " was " + want + ", and is " + got);
        }
    }

    /** A call that was refused, and the TROUBLE behind it. */
    void refused(String what, GreenHours x, long got, int trouble) {
        due(what, got, GreenHours.NONE);
        due("trouble() after " + what, x.trouble(), trouble);
    }

    void refused(String what, GreenHours x, boolean got, int trouble) {
        due(what, got, false);
        due("trouble() after " + what, x.trouble(), trouble);
    }

    void granted(String what, GreenHours x, boolean got) {
        due(what, got, true);
        due("trouble() after " + what, x.trouble(), 0);
    }

    void granted(String what, GreenHours x, long got, long want) {
        due(what, got, want);
        due("trouble() after " + what, x.trouble(), 0);
    }

    /** The PLACE, HOUR and COST of a JOB in the latest lay(). */
    void laid(GreenHours x, int job, int place, int hour, int cost) {
        due("laid(" + job + ", 0)", x.laid(job, 0), place);
        due("laid(" + job + ", 1)", x.laid(job, 1), hour);
        due("laid(" + job + ", 2)", x.laid(job, 2), cost);
    }

    int wrongSoFar() {
        return wrong;
    }

    void end() {
        System.out.println(name + ": " + tests + " tests, " + asked + " answers, " + wrong
            + " not as due");
        if (wrong != 0) {
            System.exit(1);
        }
    }
}
