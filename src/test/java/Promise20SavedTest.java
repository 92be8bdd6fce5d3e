/** Promise 20: "SAVED (may be below 0)", AT ONCE "less PAID of DONE ones". */
public final class Promise20SavedTest {
    public static void main(String[] args) {
        Check c = new Check("Promise 20, saved");
        c.test("0 without any DONE", Promise20SavedTest::withoutAny);
        c.test("above 0", Promise20SavedTest::above);
        c.test("0 of one done at once at HOME", Promise20SavedTest::nothing);
        c.test("may be below 0", Promise20SavedTest::below);
        c.test("-1 is no refusal", Promise20SavedTest::oneBelow);
        c.test("PAID of DONE ones alone", Promise20SavedTest::doneAlone);
        c.test("a FARE told later is of no matter", Promise20SavedTest::laterFare);
        c.test("it leaves TROUBLE", Promise20SavedTest::leavesTrouble);
        c.end();
    }

    private static void withoutAny(Check c) {
        c.due("saved() without JOBS", new GreenHours().saved(), 0);
        GreenHours x = House.of(1);
        x.job(0, 0, 3, 0, 3, 0);
        x.job(0, 0, 3, 0, 3, 0);
        x.pass(2);
        c.due("saved() of one BEGUN and one LOST", x.saved(), 0);
    }

    private static void above(Check c) {
        GreenHours x = House.of(1, 1);
        x.green(1, 0, 1, 100);
        x.fare(0, 1, 3);
        x.job(0, 0, 2, 0, 9, 10);
        x.pass(2);
        c.due("saved()", x.saved(), 1000 - 230);
    }

    private static void nothing(Check c) {
        GreenHours x = House.of(1);
        x.job(0, 0, 2, 0, 9, 0);
        x.pass(2);
        c.due("paid()", x.paid(), 1000);
        c.due("saved()", x.saved(), 0);
    }

    /** It waits for an HOUR that is then told anew. */
    private static GreenHours inVain(int green) {
        GreenHours x = House.of(1);
        x.green(0, 4, 4, 300);
        x.job(0, 0, 1, 0, 5, 0);
        x.pass(4);
        x.green(0, 4, 4, green);
        x.pass(1);
        return x;
    }

    private static void below(Check c) {
        c.due("saved()", inVain(900).saved(), -400);
        c.due("saved(), the least of an HOUR", inVain(999).saved(), -499);
    }

    private static void oneBelow(Check c) {
        GreenHours x = inVain(501);
        c.due("saved()", x.saved(), -1);
    }

    private static void doneAlone(Check c) {
        GreenHours x = House.of(2, 1);
        x.green(1, 0, 9, 100);
        x.fare(0, 1, 3);
        x.job(0, 0, 2, 0, 9, 10);
        x.job(0, 0, 3, 0, 3, 0);
        x.pass(4);
        c.due("paid() of one DONE and one BEGUN", x.paid(), 300 + 130);
        c.due("saved() of the one DONE", x.saved(), 1500 - 300);
        x.pass(1);
        c.due("saved() of both", x.saved(), 2500 - 530);
    }

    private static void laterFare(Check c) {
        GreenHours x = House.of(1, 1);
        x.green(1, 0, 1, 100);
        x.job(0, 0, 2, 0, 9, 10);
        x.pass(2);
        x.fare(0, 1, 99);
        c.due("saved()", x.saved(), 1000 - 210);
    }

    private static void leavesTrouble(Check c) {
        GreenHours x = House.of(1);
        c.refused("place(0)", x, x.place(0), 2);
        x.saved();
        c.due("trouble()", x.trouble(), 2);
    }
}
