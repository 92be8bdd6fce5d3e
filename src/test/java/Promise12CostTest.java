/** Promise 12: "COST of all LAYINGS of the latest lay() together; NONE ahead of any." */
public final class Promise12CostTest {
    public static void main(String[] args) {
        Check c = new Check("Promise 12, cost");
        c.test("NONE ahead of any", Promise12CostTest::aheadOfAny);
        c.test("what an HOUR lays is none", Promise12CostTest::hoursLayNone);
        c.test("0 of a lay() without LAYINGS", Promise12CostTest::empty);
        c.test("of all LAYINGS together, DATA, too", Promise12CostTest::together);
        c.test("one unlaid costs nothing", Promise12CostTest::unlaid);
        c.test("of the latest lay()", Promise12CostTest::latest);
        c.test("the greatest", Promise12CostTest::greatest);
        c.test("it leaves TROUBLE", Promise12CostTest::leavesTrouble);
        c.end();
    }

    private static void aheadOfAny(Check c) {
        GreenHours x = House.of(1);
        c.due("cost() without JOBS", x.cost(), -1);
        x.job(0, 0, 1, 0, 9, 0);
        c.due("cost() with a JOB", x.cost(), -1);
        x.best();
        c.due("cost() behind best()", x.cost(), -1);
    }

    private static void hoursLayNone(Check c) {
        GreenHours x = House.of(1);
        x.job(0, 0, 1, 5, 9, 0);
        x.pass(1);
        c.due("cost() behind pass(1)", x.cost(), -1);
        x.lay();
        x.green(0, 5, 8, 7);
        x.pass(1);
        c.due("cost() behind lay() and pass(1)", x.cost(), 500);
    }

    private static void empty(Check c) {
        GreenHours x = new GreenHours();
        x.lay();
        c.due("cost() without PLACES", x.cost(), 0);
        x = House.of(1);
        x.job(0, 0, 1, 0, 9, 0);
        x.drop(0);
        x.lay();
        c.due("cost() when none WAITS", x.cost(), 0);
    }

    private static void together(Check c) {
        GreenHours x = House.of(1, 1);
        x.green(1, 0, 9, 100);
        x.fare(0, 1, 3);
        x.job(0, 0, 2, 0, 2, 10);
        x.job(0, 0, 1, 0, 2, 10);
        x.lay();
        c.due("cost()", x.cost(), 230 + 500);
    }

    private static void unlaid(Check c) {
        GreenHours x = House.of(1);
        x.job(0, 0, 1, 0, 1, 0);
        x.job(0, 0, 1, 0, 1, 0);
        x.lay();
        c.due("cost()", x.cost(), 500);
    }

    private static void latest(Check c) {
        GreenHours x = House.of(1);
        x.job(0, 0, 1, 0, 9, 0);
        x.lay();
        x.green(0, 4, 4, 60);
        x.job(0, 0, 1, 0, 9, 0);
        c.due("cost() as it was", x.cost(), 500);
        x.drop(0);
        c.due("cost() behind drop", x.cost(), 500);
        x.lay();
        c.due("cost() anew", x.cost(), 60);
        x.drop(1);
        x.lay();
        c.due("cost() of none", x.cost(), 0);
    }

    private static void greatest(Check c) {
        GreenHours x = House.dearest();
        c.due("lay()", x.lay(), 36);
        c.due("cost()", x.cost(), House.DEAREST);
    }

    private static void leavesTrouble(Check c) {
        GreenHours x = House.of(1);
        c.refused("place(0)", x, x.place(0), 2);
        x.cost();
        c.due("trouble()", x.trouble(), 2);
    }
}
