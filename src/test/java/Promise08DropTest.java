/** Promise 8: "A JOB that WAITS is given up (LOST): true; false: 1; 4." */
public final class Promise08DropTest {
    public static void main(String[] args) {
        Check c = new Check("Promise 8, drop");
        c.test("one that WAITS is LOST", Promise08DropTest::waits);
        c.test("1: no such JOB", Promise08DropTest::noSuch);
        c.test("4: one BEGUN", Promise08DropTest::begun);
        c.test("4: one DONE", Promise08DropTest::done);
        c.test("4: one given up", Promise08DropTest::again);
        c.test("4: one LOST by the HOURS", Promise08DropTest::lost);
        c.test("a refused one changes nothing", Promise08DropTest::refusedLeaves);
        c.test("one given up is not laid", Promise08DropTest::notLaid);
        c.test("one given up never begins", Promise08DropTest::neverBegins);
        c.end();
    }

    private static void waits(Check c) {
        GreenHours x = House.of(1);
        x.job(0, 0, 1, 0, 9, 0);
        x.job(0, 0, 1, 0, 9, 0);
        c.granted("drop(1), the last there is", x, x.drop(1));
        c.due("about(1, 0)", x.about(1, 0), 3);
        c.due("about(0, 0)", x.about(0, 0), 0);
        c.due("count(2)", x.count(2), 1);
        c.due("count(5)", x.count(5), 1);
        c.due("count(1)", x.count(1), 2);
        c.granted("drop(0), the first", x, x.drop(0));
        c.due("about(0, 0)", x.about(0, 0), 3);
    }

    private static void noSuch(Check c) {
        GreenHours x = House.of(1);
        c.refused("drop(0) without JOBS", x, x.drop(0), 1);
        x.job(0, 0, 1, 0, 9, 0);
        for (int j : new int[] {Check.LEAST, -1, 1, 40, Check.MOST}) {
            c.refused("drop(" + j + ")", x, x.drop(j), 1);
        }
    }

    private static void begun(Check c) {
        GreenHours x = House.ofAllStates();
        c.refused("drop(1)", x, x.drop(1), 4);
        c.due("about(1, 0)", x.about(1, 0), 1);
    }

    private static void done(Check c) {
        GreenHours x = House.ofAllStates();
        c.refused("drop(2)", x, x.drop(2), 4);
        c.due("about(2, 0)", x.about(2, 0), 2);
    }

    private static void again(Check c) {
        GreenHours x = House.ofAllStates();
        c.refused("drop(3)", x, x.drop(3), 4);
        c.due("about(3, 0)", x.about(3, 0), 3);
    }

    private static void lost(Check c) {
        GreenHours x = House.of(1);
        x.job(0, 0, 1, 0, 1, 0);
        x.job(0, 0, 1, 0, 1, 0);
        x.pass(1);
        c.due("about(1, 0)", x.about(1, 0), 3);
        c.refused("drop(1)", x, x.drop(1), 4);
    }

    private static void refusedLeaves(Check c) {
        GreenHours x = House.ofAllStates();
        String before = House.look(x);
        x.drop(1);
        x.drop(2);
        x.drop(3);
        x.drop(4);
        c.same("the house", House.look(x), before);
        c.due("JOB 1 goes on to its end", x.pass(2), 1);
    }

    private static void notLaid(Check c) {
        GreenHours x = House.of(1);
        x.job(0, 0, 1, 0, 1, 0);
        x.job(0, 0, 1, 0, 1, 0);
        x.drop(0);
        c.due("lay()", x.lay(), 1);
        c.laid(x, 0, -1, -1, -1);
        c.laid(x, 1, 0, 0, 500);
        c.due("best() of the other", x.best(), 500);
    }

    private static void neverBegins(Check c) {
        GreenHours x = House.of(1);
        x.job(4, 0, 1, 0, 9, 0);
        x.drop(0);
        c.due("pass(20)", x.pass(20), 0);
        c.due("about(0, 0)", x.about(0, 0), 3);
        c.due("about(0, 1)", x.about(0, 1), -1);
        c.due("paid()", x.paid(), 0);
        c.due("delay(4)", x.delay(4), 0);
    }
}
