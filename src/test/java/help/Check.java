/** Counts answers that are not the ones that are due. */
final class Check {
    private int wrong = 0;
    private int asked = 0;

    void due(String what, long got, long want) {
        asked++;
        if (got != want) {
            wrong++;
            System.out.println(what + " answered " + got + ", due is " + want);
        }
    }

    void due(String what, boolean got, boolean want) {
        due(what, got ? 1 : 0, want ? 1 : 0);
    }

    /** A call that was refused, and the TROUBLE behind it. */
    void refused(String what, GreenHours x, long got, int trouble) {
        due(what, got, GreenHours.NONE);
        due("trouble() after " + what, x.trouble(), trouble);
    }

    void refused(String what, GreenHours x, boolean got, int trouble) {
        due(what, got, false);
        due("trouble() after " + what, x.trouble(), trouble);
    }

    void granted(String what, GreenHours x, boolean got) {
        due(what, got, true);
        due("trouble() after " + what, x.trouble(), 0);
    }

    void granted(String what, GreenHours x, long got, long want) {
        due(what, got, want);
        due("trouble() after " + what, x.trouble(), 0);
    }

    int wrongSoFar() {
        return wrong;
    }

    void end(String name) {
        System.out.println(name + ": " + asked + " answers, " + wrong + " not as due");
        if (wrong != 0) {
            System.exit(1);
        }
    }
}
