/**
 * Promise 9: "Of a JOB what 0: 0 WAITS, 1 BEGUN, 2 DONE, 3 LOST; 1 the PLACE where it was begun
 * (NONE), 2 the HOUR (NONE), 3 what it PAID so far, 4 OWNER, 5 HOME, 6 LENGTH, 7 the HOUR from
 * which on it may, 8 DUE, 9 DATA. NONE."
 */
public final class Promise09AboutTest {
    public static void main(String[] args) {
        Check c = new Check("Promise 9, about");
        c.test("each what of one that WAITS", Promise09AboutTest::eachWhat);
        c.test("what 0: WAITS, BEGUN, DONE, LOST", Promise09AboutTest::states);
        c.test("what 1 and 2: NONE until begun", Promise09AboutTest::notBegun);
        c.test("what 1 and 2: where it was begun, and when", Promise09AboutTest::begun);
        c.test("what 1 and 2: NONE of one LOST", Promise09AboutTest::lost);
        c.test("what 3: PAID so far", Promise09AboutTest::paidSoFar);
        c.test("what: too small, too large", Promise09AboutTest::noWhat);
        c.test("no such JOB", Promise09AboutTest::noSuch);
        c.test("the greatest JOB", Promise09AboutTest::greatest);
        c.test("it leaves TROUBLE", Promise09AboutTest::leavesTrouble);
        c.end();
    }

    private static void eachWhat(Check c) {
        GreenHours x = House.of(1, 1);
        x.job(4, 1, 3, 8, 20, 77);
        int[] due = {0, -1, -1, 0, 4, 1, 3, 8, 20, 77};
        for (int what = 0; what <= 9; what++) {
            c.due("about(0, " + what + ")", x.about(0, what), due[what]);
        }
    }

    private static void states(Check c) {
        GreenHours x = House.ofAllStates();
        for (int j = 0; j <= 3; j++) {
            c.due("about(" + j + ", 0)", x.about(j, 0), j);
        }
    }

    private static void notBegun(Check c) {
        GreenHours x = House.of(1);
        x.job(0, 0, 1, 5, 9, 0);
        x.lay();
        x.pass(4);
        c.due("about(0, 1)", x.about(0, 1), -1);
        c.due("about(0, 2)", x.about(0, 2), -1);
        c.due("about(0, 3)", x.about(0, 3), 0);
    }

    private static void begun(Check c) {
        GreenHours x = House.of(1, 1);
        x.green(1, 2, 4, 10);
        x.job(1, 0, 3, 1, 9, 5);
        x.pass(3);
        c.due("about(0, 0), BEGUN", x.about(0, 0), 1);
        c.due("about(0, 1), BEGUN", x.about(0, 1), 1);
        c.due("about(0, 2), BEGUN", x.about(0, 2), 2);
        x.pass(7);
        c.due("about(0, 0), DONE", x.about(0, 0), 2);
        c.due("about(0, 1), DONE", x.about(0, 1), 1);
        c.due("about(0, 2), DONE", x.about(0, 2), 2);
        c.due("about(0, 5), its HOME still", x.about(0, 5), 0);
        c.due("about(0, 7), from which on still", x.about(0, 7), 1);
        x = House.of(1);
        x.job(0, 0, 1, 0, 1, 0);
        x.pass(1);
        c.due("about(0, 1) in PLACE 0", x.about(0, 1), 0);
        c.due("about(0, 2) in HOUR 0", x.about(0, 2), 0);
    }

    private static void lost(Check c) {
        GreenHours x = House.of(1);
        x.job(0, 0, 1, 0, 1, 0);
        x.job(0, 0, 1, 0, 1, 0);
        x.job(0, 0, 1, 5, 9, 0);
        x.drop(2);
        x.pass(1);
        for (int j = 1; j <= 2; j++) {
            c.due("about(" + j + ", 0)", x.about(j, 0), 3);
            c.due("about(" + j + ", 1)", x.about(j, 1), -1);
            c.due("about(" + j + ", 2)", x.about(j, 2), -1);
            c.due("about(" + j + ", 3)", x.about(j, 3), 0);
        }
    }

    private static void paidSoFar(Check c) {
        GreenHours x = House.of(1, 1);
        x.green(1, 2, 2, 10);
        x.green(1, 3, 3, 20);
        x.green(1, 4, 4, 30);
        x.fare(0, 1, 2);
        x.job(1, 0, 3, 1, 9, 5);
        x.pass(3);
        c.due("GREEN and DATA with the first HOUR", x.about(0, 3), 20);
        x.fare(0, 1, 50);
        x.pass(1);
        c.due("the DATA once, at its FARE then", x.about(0, 3), 40);
        x.green(1, 4, 4, 31);
        x.pass(1);
        c.due("as foretold when the HOUR began", x.about(0, 3), 71);
        x.pass(3);
        c.due("for its HOURS alone", x.about(0, 3), 71);
    }

    private static void noWhat(Check c) {
        GreenHours x = House.ofAllStates();
        for (int what : new int[] {Check.LEAST, -2, -1, 10, 11, Check.MOST}) {
            for (int j = 0; j <= 3; j++) {
                c.due("about(" + j + ", " + what + ")", x.about(j, what), -1);
            }
        }
    }

    private static void noSuch(Check c) {
        GreenHours x = House.of(1);
        c.due("about(0, 0) without JOBS", x.about(0, 0), -1);
        x.job(0, 0, 1, 0, 9, 0);
        for (int j : new int[] {Check.LEAST, -1, 1, 39, 40, Check.MOST}) {
            for (int what = 0; what <= 9; what++) {
                c.due("about(" + j + ", " + what + ")", x.about(j, what), -1);
            }
        }
    }

    private static void greatest(Check c) {
        GreenHours x = House.of(1, 1, 1, 1);
        x.job(5, 3, 12, 288, 300, 99);
        int[] due = {0, -1, -1, 0, 5, 3, 12, 288, 300, 99};
        for (int what = 0; what <= 9; what++) {
            c.due("about(0, " + what + ")", x.about(0, what), due[what]);
        }
    }

    private static void leavesTrouble(Check c) {
        GreenHours x = House.of(1);
        c.refused("place(0)", x, x.place(0), 2);
        x.about(0, 0);
        x.about(-1, 10);
        c.due("trouble()", x.trouble(), 2);
    }
}
