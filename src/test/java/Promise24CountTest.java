/**
 * Promise 24: "0 PLACES, 1 JOBS, 2 those that WAIT, 3 BEGUN, 4 DONE, 5 LOST, 6 NOW. NONE for others."
 */
public final class Promise24CountTest {
    public static void main(String[] args) {
        Check c = new Check("Promise 24, count");
        c.test("each what", Promise24CountTest::eachWhat);
        c.test("0 in a new house", Promise24CountTest::empty);
        c.test("the most PLACES and JOBS", Promise24CountTest::full);
        c.test("the last NOW", Promise24CountTest::lastNow);
        c.test("NONE for others: too small, too large", Promise24CountTest::noWhat);
        c.test("it leaves TROUBLE", Promise24CountTest::leavesTrouble);
        c.end();
    }

    private static void eachWhat(Check c) {
        GreenHours x = House.of(2, 1, 1);
        x.job(0, 0, 1, 0, 1, 0);
        x.job(0, 0, 9, 0, 9, 0);
        x.job(0, 0, 9, 0, 9, 99);
        for (int i = 3; i < 10; i++) {
            x.job(0, 0, 1, 20, 30, 0);
        }
        for (int i = 3; i < 6; i++) {
            x.drop(i);
        }
        x.pass(2);
        int[] due = {3, 10, 4, 2, 1, 3, 2};
        for (int what = 0; what <= 6; what++) {
            c.due("count(" + what + ")", x.count(what), due[what]);
        }
    }

    private static void empty(Check c) {
        GreenHours x = new GreenHours();
        for (int what = 0; what <= 6; what++) {
            c.due("count(" + what + ")", x.count(what), 0);
        }
    }

    private static void full(Check c) {
        GreenHours x = House.of(1, 1, 1, 1, 1);
        for (int i = 0; i < 41; i++) {
            x.job(0, 0, 1, 0, 99, 0);
        }
        c.due("count(0)", x.count(0), 4);
        c.due("count(1)", x.count(1), 40);
        c.due("count(2)", x.count(2), 40);
        x.pass(48);
        c.due("count(1) when all are DONE", x.count(1), 40);
        c.due("count(2) when all are DONE", x.count(2), 0);
        c.due("count(4) when all are DONE", x.count(4), 40);
    }

    private static void lastNow(Check c) {
        GreenHours x = House.of(1);
        House.passTo(x, 299);
        c.due("count(6)", x.count(6), 299);
        x.pass(1);
        c.due("count(6) behind a refused pass(1)", x.count(6), 299);
    }

    private static void noWhat(Check c) {
        GreenHours x = House.ofAllStates();
        for (int what : new int[] {Check.LEAST, -2, -1, 7, 8, Check.MOST}) {
            c.due("count(" + what + ")", x.count(what), -1);
        }
    }

    private static void leavesTrouble(Check c) {
        GreenHours x = House.of(1);
        c.refused("place(0)", x, x.place(0), 2);
        x.count(0);
        x.count(7);
        c.due("trouble()", x.trouble(), 2);
    }
}
