/**
 * Promise 11: "Of a JOB in the latest lay() (what an HOUR lays is none) what 0 the PLACE, 1 the
 * HOUR, 2 COST; NONE where it has none."
 */
public final class Promise11LaidTest {
    public static void main(String[] args) {
        Check c = new Check("Promise 11, laid");
        c.test("the PLACE, the HOUR, COST", Promise11LaidTest::eachWhat);
        c.test("PLACE 0, HOUR 0, COST 0 are not NONE", Promise11LaidTest::zeros);
        c.test("the greatest COST", Promise11LaidTest::greatest);
        c.test("ahead of any lay()", Promise11LaidTest::aheadOfAny);
        c.test("what an HOUR lays is none", Promise11LaidTest::hoursLayNone);
        c.test("NONE of one unlaid", Promise11LaidTest::unlaid);
        c.test("the last of forty JOBS", Promise11LaidTest::lastOfForty);
        c.test("no such JOB", Promise11LaidTest::noSuch);
        c.test("what: too small, too large", Promise11LaidTest::noWhat);
        c.test("a JOB made since then", Promise11LaidTest::madeSince);
        c.test("the latest lay() stays as it was", Promise11LaidTest::stays);
        c.test("the latest lay() alone", Promise11LaidTest::latestAlone);
        c.test("it leaves TROUBLE", Promise11LaidTest::leavesTrouble);
        c.end();
    }

    private static void eachWhat(Check c) {
        GreenHours x = House.of(1, 1);
        x.green(1, 6, 7, 20);
        x.fare(0, 1, 9);
        x.job(0, 0, 2, 0, 9, 3);
        x.lay();
        c.laid(x, 0, 1, 6, 67);
    }

    private static void zeros(Check c) {
        GreenHours x = House.of(1);
        x.green(0, 0, 0, 0);
        x.job(0, 0, 1, 0, 9, 0);
        x.lay();
        c.laid(x, 0, 0, 0, 0);
    }

    /** HOME is full, so that its DATA must be brought elsewhere. */
    private static void greatest(Check c) {
        GreenHours x = House.of(1, 1, 1, 1);
        x.job(0, 0, 12, 0, 12, 0);
        x.green(3, 0, 299, 999);
        x.fare(0, 3, 99);
        x.job(0, 1, 12, 0, 12, 0);
        x.job(0, 2, 12, 0, 12, 0);
        x.job(0, 0, 12, 0, 12, 99);
        x.lay();
        c.laid(x, 3, 3, 0, 12 * 999 + 99 * 99);
    }

    private static void aheadOfAny(Check c) {
        GreenHours x = House.of(1);
        c.laid(x, 0, -1, -1, -1);
        x.job(0, 0, 1, 0, 9, 0);
        c.laid(x, 0, -1, -1, -1);
        x.best();
        c.laid(x, 0, -1, -1, -1);
    }

    private static void hoursLayNone(Check c) {
        GreenHours x = House.of(1);
        x.job(0, 0, 1, 0, 9, 0);
        x.job(0, 0, 1, 5, 9, 0);
        x.pass(1);
        c.laid(x, 0, -1, -1, -1);
        c.laid(x, 1, -1, -1, -1);
        x.lay();
        c.laid(x, 1, 0, 5, 500);
        x.green(0, 7, 7, 1);
        x.pass(1);
        c.laid(x, 1, 0, 5, 500);
    }

    private static void unlaid(Check c) {
        GreenHours x = House.of(1);
        x.job(0, 0, 1, 0, 1, 0);
        x.job(0, 0, 1, 0, 1, 0);
        x.lay();
        c.laid(x, 0, 0, 0, 500);
        c.laid(x, 1, -1, -1, -1);
    }

    private static void lastOfForty(Check c) {
        GreenHours x = House.of(1);
        for (int i = 0; i < 40; i++) {
            x.job(0, 0, 1, i, i + 1, 0);
        }
        x.lay();
        c.laid(x, 39, 0, 39, 500);
        c.laid(x, 40, -1, -1, -1);
    }

    private static void noSuch(Check c) {
        GreenHours x = House.of(1);
        x.job(0, 0, 1, 0, 9, 0);
        x.lay();
        for (int j : new int[] {Check.LEAST, -2, -1, 1, 39, 40, 41, Check.MOST}) {
            c.laid(x, j, -1, -1, -1);
        }
    }

    private static void noWhat(Check c) {
        GreenHours x = House.of(1);
        x.job(0, 0, 1, 0, 9, 0);
        x.lay();
        for (int w : new int[] {Check.LEAST, -2, -1, 3, 4, Check.MOST}) {
            c.due("laid(0, " + w + ")", x.laid(0, w), -1);
        }
    }

    private static void madeSince(Check c) {
        GreenHours x = House.of(1);
        x.lay();
        x.job(0, 0, 1, 0, 9, 0);
        c.laid(x, 0, -1, -1, -1);
        x.lay();
        c.laid(x, 0, 0, 0, 500);
    }

    private static void stays(Check c) {
        GreenHours x = House.of(1);
        x.green(0, 3, 3, 40);
        x.job(0, 0, 1, 0, 9, 0);
        x.job(0, 0, 1, 0, 9, 0);
        x.lay();
        x.green(0, 2, 2, 10);
        x.drop(1);
        c.laid(x, 0, 0, 3, 40);
        c.laid(x, 1, 0, 0, 500);
        x.pass(3);
        c.due("it was begun elsewhere", x.about(0, 2), 2);
        c.laid(x, 0, 0, 3, 40);
        c.laid(x, 1, 0, 0, 500);
    }

    private static void latestAlone(Check c) {
        GreenHours x = House.of(1);
        x.green(0, 3, 3, 40);
        x.job(0, 0, 1, 0, 9, 0);
        x.lay();
        x.green(0, 5, 5, 30);
        x.lay();
        c.laid(x, 0, 0, 5, 30);
        x.drop(0);
        x.lay();
        c.laid(x, 0, -1, -1, -1);
    }

    private static void leavesTrouble(Check c) {
        GreenHours x = House.of(1);
        c.refused("place(0)", x, x.place(0), 2);
        x.laid(0, 0);
        x.laid(-1, 3);
        c.due("trouble()", x.trouble(), 2);
    }
}
