/**
 * Promise 16: "DELAY of an OWNER; NONE." DELAY: "of its DONE and BEGUN JOBS how many HOURS each
 * began behind the HOUR from which on it might, together."
 */
public final class Promise16DelayTest {
    public static void main(String[] args) {
        Check c = new Check("Promise 16, delay");
        c.test("0 without JOBS", Promise16DelayTest::withoutJobs);
        c.test("0 of one begun at once", Promise16DelayTest::atOnceBegun);
        c.test("of its DONE and BEGUN JOBS together", Promise16DelayTest::together);
        c.test("those that WAIT have none", Promise16DelayTest::waits);
        c.test("those LOST have none", Promise16DelayTest::lost);
        c.test("each OWNER for itself", Promise16DelayTest::apart);
        c.test("OWNERS 0 .. 5: the first and the last", Promise16DelayTest::edges);
        c.test("OWNERS 0 .. 5: too small, too large", Promise16DelayTest::noOwner);
        c.test("the longest", Promise16DelayTest::longest);
        c.test("it leaves TROUBLE", Promise16DelayTest::leavesTrouble);
        c.end();
    }

    private static void withoutJobs(Check c) {
        GreenHours x = new GreenHours();
        x.pass(9);
        for (int o = 0; o <= 5; o++) {
            c.due("delay(" + o + ")", x.delay(o), 0);
        }
    }

    private static void atOnceBegun(Check c) {
        GreenHours x = House.of(1);
        x.job(1, 0, 2, 3, 5, 0);
        x.pass(4);
        c.due("BEGUN", x.about(0, 0), 1);
        c.due("delay(1)", x.delay(1), 0);
    }

    private static void together(Check c) {
        GreenHours x = House.of(2);
        x.green(0, 0, 4, 900);
        x.job(1, 0, 1, 0, 9, 0);
        x.job(1, 0, 3, 2, 9, 0);
        x.pass(6);
        c.due("one DONE", x.about(0, 0), 2);
        c.due("one BEGUN", x.about(1, 0), 1);
        c.due("delay(1)", x.delay(1), 5 + 3);
        x.pass(3);
        c.due("both DONE", x.about(1, 0), 2);
        c.due("delay(1) stays", x.delay(1), 8);
    }

    private static void waits(Check c) {
        GreenHours x = House.of(1);
        x.green(0, 0, 4, 900);
        x.job(1, 0, 1, 0, 9, 0);
        x.pass(5);
        c.due("it WAITS", x.about(0, 0), 0);
        c.due("delay(1)", x.delay(1), 0);
        x.pass(1);
        c.due("delay(1) when it has begun", x.delay(1), 5);
    }

    private static void lost(Check c) {
        GreenHours x = House.of(1);
        x.job(0, 0, 9, 0, 9, 0);
        x.job(1, 0, 1, 0, 9, 0);
        x.job(1, 0, 1, 0, 99, 0);
        x.pass(8);
        x.drop(2);
        x.pass(8);
        c.due("LOST by the HOURS", x.about(1, 0), 3);
        c.due("LOST by drop", x.about(2, 0), 3);
        c.due("delay(1)", x.delay(1), 0);
    }

    private static void apart(Check c) {
        GreenHours x = House.delayed(2, 7, 1);
        for (int o = 0; o <= 5; o++) {
            c.due("delay(" + o + ")", x.delay(o), o == 2 ? 7 : 0);
        }
    }

    private static void edges(Check c) {
        c.due("delay(0)", House.delayed(0, 1, 1).delay(0), 1);
        c.due("delay(5)", House.delayed(5, 1, 1).delay(5), 1);
    }

    private static void noOwner(Check c) {
        GreenHours x = House.delayed(5, 1, 1);
        for (int o : new int[] {Check.LEAST, -2, -1, 6, 7, Check.MOST}) {
            c.due("delay(" + o + ")", x.delay(o), -1);
        }
    }

    /** Forty that wait for HOUR 287 and those behind it. */
    private static void longest(Check c) {
        GreenHours x = House.of(9, 9, 9, 9);
        for (int p = 0; p < 4; p++) {
            x.green(p, 0, 286, 999);
        }
        x.patience(500);
        for (int i = 0; i < 40; i++) {
            x.job(3, 0, 1, 0, 289, 0);
        }
        House.passTo(x, 287);
        c.due("delay(3) while all WAIT", x.delay(3), 0);
        x.pass(2);
        c.due("all DONE", x.count(4), 40);
        c.due("delay(3)", x.delay(3), 36 * 287 + 4 * 288);
    }

    private static void leavesTrouble(Check c) {
        GreenHours x = House.of(1);
        c.refused("place(0)", x, x.place(0), 2);
        x.delay(0);
        x.delay(6);
        c.due("trouble()", x.trouble(), 2);
    }
}
