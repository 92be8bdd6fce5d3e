/**
 * Promise 23: "COST that a JOB would have by a LAYING at a PLACE from an HOUR on, by numbers as they
 * are (TRUE or FORETOLD), whatever the ROOM; -2 if it doesn't end by DUE, or begins ahead of its
 * HOUR. NONE: 1 (JOB, PLACE)."
 */
public final class Promise23WouldTest {
    public static void main(String[] args) {
        Check c = new Check("Promise 23, would");
        c.test("COST: GREEN of its HOURS and what its DATA costs", Promise23WouldTest::costs);
        c.test("COST 0 and the greatest", Promise23WouldTest::edgesOfCost);
        c.test("TRUE or FORETOLD", Promise23WouldTest::numbers);
        c.test("whatever the ROOM", Promise23WouldTest::whateverRoom);
        c.test("-2: ends by DUE or doesn't", Promise23WouldTest::byDue);
        c.test("-2: begins ahead of its HOUR or doesn't", Promise23WouldTest::aheadOfItsHour);
        c.test("-2: HOURS too small, too large, that wrap around", Promise23WouldTest::noHour);
        c.test("the last HOUR", Promise23WouldTest::lastHour);
        c.test("of a JOB in any state", Promise23WouldTest::anyState);
        c.test("1: no such JOB", Promise23WouldTest::noJob);
        c.test("1: no such PLACE", Promise23WouldTest::noPlace);
        c.test("1 stands ahead of -2", Promise23WouldTest::noSuchAndOutOfTime);
        c.test("it changes nothing", Promise23WouldTest::changesNothing);
        c.end();
    }

    private static void costs(Check c) {
        GreenHours x = House.of(1, 1);
        x.green(0, 2, 2, 10);
        x.green(0, 3, 3, 20);
        x.green(1, 3, 3, 1);
        x.fare(0, 1, 4);
        x.job(0, 0, 2, 2, 8, 10);
        c.granted("would(0, 0, 2)", x, x.would(0, 0, 2), 30);
        c.granted("would(0, 0, 3)", x, x.would(0, 0, 3), 520);
        c.granted("would(0, 1, 2)", x, x.would(0, 1, 2), 501 + 40);
        x.job(0, 1, 12, 0, 20, 3);
        c.granted("would(1, 1, 0)", x, x.would(1, 1, 0), 11 * 500 + 1);
        c.granted("would(1, 0, 0)", x, x.would(1, 0, 0), 10 * 500 + 30 + 12);
    }

    private static void edgesOfCost(Check c) {
        GreenHours x = House.of(1, 1);
        x.green(0, 0, 299, 0);
        x.green(1, 0, 299, 999);
        x.fare(0, 1, 99);
        x.job(0, 0, 12, 0, 12, 99);
        c.granted("would(0, 0, 0)", x, x.would(0, 0, 0), 0);
        c.granted("would(0, 1, 0)", x, x.would(0, 1, 0), 12 * 999 + 99 * 99);
    }

    private static void numbers(Check c) {
        GreenHours x = House.of(1);
        x.green(0, 2, 2, 10);
        x.job(0, 0, 2, 2, 9, 0);
        x.pass(3);
        x.green(0, 3, 3, 20);
        c.granted("one HOUR past, one FORETOLD", x, x.would(0, 0, 2), 30);
        x.pass(5);
        c.granted("both past", x, x.would(0, 0, 2), 30);
        c.granted("from NOW less 1 on", x, x.would(0, 0, 7), 1000);
    }

    private static void whateverRoom(Check c) {
        GreenHours x = House.of(1);
        x.job(0, 0, 6, 0, 6, 0);
        x.job(0, 0, 2, 0, 9, 0);
        x.pass(1);
        c.due("free(0, 3)", x.free(0, 3), 0);
        c.granted("would(1, 0, 3)", x, x.would(1, 0, 3), 1000);
    }

    private static void byDue(Check c) {
        GreenHours x = House.of(1);
        x.job(0, 0, 3, 2, 8, 0);
        c.granted("would(0, 0, 5)", x, x.would(0, 0, 5), 1500);
        c.granted("would(0, 0, 6)", x, x.would(0, 0, 6), -2);
        c.granted("would(0, 0, 8)", x, x.would(0, 0, 8), -2);
    }

    private static void aheadOfItsHour(Check c) {
        GreenHours x = House.of(1);
        x.job(0, 0, 3, 2, 8, 0);
        c.granted("would(0, 0, 2)", x, x.would(0, 0, 2), 1500);
        c.granted("would(0, 0, 1)", x, x.would(0, 0, 1), -2);
        c.granted("would(0, 0, 0)", x, x.would(0, 0, 0), -2);
    }

    private static void noHour(Check c) {
        GreenHours x = House.of(1);
        x.job(0, 0, 12, 0, 300, 0);
        for (int h : new int[] {Check.LEAST, Check.LEAST + 11, -12, -1}) {
            c.granted("would(0, 0, " + h + ")", x, x.would(0, 0, h), -2);
        }
        for (int h : new int[] {289, 299, 300, Check.MOST - 12, Check.MOST - 11, Check.MOST}) {
            c.granted("would(0, 0, " + h + ")", x, x.would(0, 0, h), -2);
        }
    }

    private static void lastHour(Check c) {
        GreenHours x = House.of(1);
        x.green(0, 299, 299, 3);
        x.job(0, 0, 1, 0, 300, 0);
        x.job(0, 0, 12, 0, 300, 0);
        c.granted("would(0, 0, 299)", x, x.would(0, 0, 299), 3);
        c.granted("would(1, 0, 288)", x, x.would(1, 0, 288), 5503);
    }

    private static void anyState(Check c) {
        GreenHours x = House.ofAllStates();
        c.granted("WAITS", x, x.would(0, 0, 20), 500);
        c.granted("BEGUN", x, x.would(1, 0, 1), 1500);
        c.granted("DONE", x, x.would(2, 0, 0), 500);
        c.granted("LOST", x, x.would(3, 0, 29), 500);
        c.granted("LOST, out of time", x, x.would(3, 0, 30), -2);
    }

    private static void noJob(Check c) {
        GreenHours x = House.of(1);
        c.refused("would(0, 0, 0) without JOBS", x, x.would(0, 0, 0), 1);
        x.job(0, 0, 2, 2, 8, 10);
        for (int j : new int[] {Check.LEAST, -1, 1, 39, 40, Check.MOST}) {
            c.refused("would(" + j + ", 0, 2)", x, x.would(j, 0, 2), 1);
        }
    }

    private static void noPlace(Check c) {
        GreenHours x = House.of(1);
        x.job(0, 0, 2, 2, 8, 10);
        for (int p : new int[] {Check.LEAST, -1, 1, 3, 4, Check.MOST}) {
            c.refused("would(0, " + p + ", 2)", x, x.would(0, p, 2), 1);
        }
    }

    private static void noSuchAndOutOfTime(Check c) {
        GreenHours x = House.of(1);
        x.job(0, 0, 2, 2, 8, 10);
        c.refused("would(0, 1, 0)", x, x.would(0, 1, 0), 1);
        c.refused("would(0, 1, 300)", x, x.would(0, 1, 300), 1);
        c.refused("would(1, 0, -1)", x, x.would(1, 0, -1), 1);
        c.refused("would(1, 1, -1)", x, x.would(1, 1, -1), 1);
    }

    private static void changesNothing(Check c) {
        GreenHours x = House.ofAllStates();
        x.lay();
        String before = House.look(x);
        x.would(0, 0, 20);
        x.would(0, 0, 30);
        x.would(9, 9, 9);
        c.same("the house", House.look(x), before);
    }
}
