/** Promise 18: "PAID of all JOBS." */
public final class Promise18PaidTest {
    public static void main(String[] args) {
        Check c = new Check("Promise 18, paid");
        c.test("0 without JOBS", Promise18PaidTest::withoutJobs);
        c.test("0 while all WAIT", Promise18PaidTest::waits);
        c.test("of those BEGUN and DONE together", Promise18PaidTest::together);
        c.test("those LOST have PAID nothing", Promise18PaidTest::lost);
        c.test("by the numbers when the HOUR began", Promise18PaidTest::byTrueNumbers);
        c.test("the greatest", Promise18PaidTest::greatest);
        c.test("it leaves TROUBLE", Promise18PaidTest::leavesTrouble);
        c.end();
    }

    private static void withoutJobs(Check c) {
        GreenHours x = House.of(1);
        x.pass(5);
        c.due("paid()", x.paid(), 0);
    }

    private static void waits(Check c) {
        GreenHours x = House.of(1);
        x.job(0, 0, 1, 9, 10, 0);
        x.lay();
        x.pass(5);
        c.due("paid()", x.paid(), 0);
    }

    private static void together(Check c) {
        GreenHours x = House.of(2, 1);
        x.green(1, 0, 9, 100);
        x.fare(0, 1, 3);
        x.job(0, 0, 2, 0, 9, 10);
        x.job(0, 0, 3, 0, 3, 0);
        x.pass(1);
        c.due("paid() of one BEGUN", x.paid(), 100);
        x.pass(2);
        c.due("paid() of one DONE", x.paid(), 300);
        x.pass(1);
        c.due("paid() of one DONE and one BEGUN", x.paid(), 300 + 130);
        x.pass(1);
        c.due("paid() of both DONE", x.paid(), 300 + 230);
        x.pass(5);
        c.due("paid() later", x.paid(), 300 + 230);
    }

    private static void lost(Check c) {
        GreenHours x = House.of(1);
        x.job(0, 0, 1, 0, 1, 0);
        x.job(0, 0, 1, 0, 1, 0);
        x.job(0, 0, 1, 0, 9, 0);
        x.drop(2);
        x.pass(5);
        c.due("two are LOST", x.count(5), 2);
        c.due("paid()", x.paid(), 500);
    }

    private static void byTrueNumbers(Check c) {
        GreenHours x = House.of(1);
        x.job(0, 0, 2, 0, 2, 0);
        x.green(0, 0, 1, 10);
        x.pass(1);
        x.green(0, 1, 1, 70);
        x.pass(1);
        c.due("paid()", x.paid(), 80);
    }

    private static void greatest(Check c) {
        GreenHours x = House.dearest();
        c.due("pass(12)", x.pass(12), 36);
        c.due("paid()", x.paid(), House.DEAREST);
    }

    private static void leavesTrouble(Check c) {
        GreenHours x = House.of(1);
        c.refused("place(0)", x, x.place(0), 2);
        x.paid();
        c.due("trouble()", x.trouble(), 2);
    }
}
