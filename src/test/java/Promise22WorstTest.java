/**
 * Promise 22: "The DONE JOB with the greatest REGRET (of as great ones the least); -2 if none is
 * DONE."
 */
public final class Promise22WorstTest {
    public static void main(String[] args) {
        Check c = new Check("Promise 22, worst");
        c.test("-2 without JOBS", Promise22WorstTest::withoutJobs);
        c.test("-2 if none is DONE", Promise22WorstTest::noneDone);
        c.test("the one DONE, its REGRET 0", Promise22WorstTest::oneDone);
        c.test("the greatest REGRET", Promise22WorstTest::greatest);
        c.test("of as great ones the least", Promise22WorstTest::asGreat);
        c.test("one with REGRET below 0", Promise22WorstTest::below);
        c.test("the last of forty", Promise22WorstTest::lastOfForty);
        c.test("it leaves TROUBLE", Promise22WorstTest::leavesTrouble);
        c.end();
    }

    private static void withoutJobs(Check c) {
        c.due("worst()", new GreenHours().worst(), -2);
        c.due("worst() with a PLACE", House.of(1).worst(), -2);
    }

    private static void noneDone(Check c) {
        GreenHours x = House.of(1);
        x.job(0, 0, 3, 0, 3, 0);
        x.job(0, 0, 3, 0, 3, 0);
        x.job(0, 0, 3, 5, 9, 0);
        c.due("worst() while all WAIT", x.worst(), -2);
        x.pass(2);
        c.due("worst() with one BEGUN, one LOST", x.worst(), -2);
        x.pass(1);
        c.due("worst() with one DONE", x.worst(), 0);
    }

    private static void oneDone(Check c) {
        GreenHours x = House.ofAllStates();
        c.due("regret(2)", x.regret(2), 0);
        c.due("worst()", x.worst(), 2);
    }

    /** JOB 0, DUE at once; JOB 1 of an HOUR; JOBS 2 and 3 of two. All DONE when NOW is 2. */
    private static GreenHours fourDone() {
        GreenHours x = House.of(4);
        x.job(0, 0, 1, 0, 2, 0);
        x.job(0, 0, 1, 0, 9, 0);
        x.job(0, 0, 2, 0, 9, 0);
        x.job(0, 0, 2, 0, 9, 0);
        x.pass(2);
        x.green(0, 3, 4, 100);
        return x;
    }

    private static void greatest(Check c) {
        GreenHours x = fourDone();
        x.pass(3);
        c.due("regret(0)", x.regret(0), 0);
        c.due("regret(1)", x.regret(1), 400);
        c.due("regret(2)", x.regret(2), 800);
        c.due("worst()", x.worst(), 2);
    }

    private static void asGreat(Check c) {
        GreenHours x = fourDone();
        c.due("worst() of four with REGRET 0", x.worst(), 0);
        x.pass(2);
        c.due("regret(1)", x.regret(1), 400);
        c.due("regret(2)", x.regret(2), 400);
        c.due("regret(3)", x.regret(3), 400);
        c.due("worst() of three with REGRET 400", x.worst(), 1);
    }

    private static void below(Check c) {
        GreenHours x = House.of(1, 1);
        x.green(1, 0, 9, 100);
        x.job(0, 0, 1, 0, 1, 10);
        x.job(1, 0, 1, 0, 2, 0);
        x.pass(1);
        x.fare(0, 1, 20);
        c.due("regret(0)", x.regret(0), 110 - 300);
        c.due("worst() of one below 0", x.worst(), 0);
        x.pass(1);
        c.due("regret(1)", x.regret(1), 0);
        c.due("worst() of one below 0 and one of 0", x.worst(), 1);
    }

    private static void lastOfForty(Check c) {
        GreenHours x = House.of(1);
        x.green(0, 0, 0, 499);
        for (int i = 0; i < 39; i++) {
            x.job(0, 0, 1, i, i + 1, 0);
        }
        x.job(0, 0, 1, 0, 41, 0);
        x.pass(41);
        c.due("all DONE", x.count(4), 40);
        c.due("regret(39)", x.regret(39), 1);
        c.due("worst()", x.worst(), 39);
    }

    private static void leavesTrouble(Check c) {
        GreenHours x = House.of(1);
        c.refused("place(0)", x, x.place(0), 2);
        x.worst();
        c.due("trouble()", x.trouble(), 2);
    }
}
