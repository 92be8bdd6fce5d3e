/**
 * Promise 21: "REGRET of a DONE JOB; NONE for others." BEST: "the least COST by TRUE numbers of any
 * LAYING from its first HOUR on by its DUE, whatever the ROOM, in HOURS that are past".
 */
public final class Promise21RegretTest {
    public static void main(String[] args) {
        Check c = new Check("Promise 21, regret");
        c.test("NONE of one that WAITS, is BEGUN or LOST", Promise21RegretTest::others);
        c.test("NONE: no such JOB", Promise21RegretTest::noSuch);
        c.test("0 of one done best", Promise21RegretTest::nothing);
        c.test("what it PAID less its BEST", Promise21RegretTest::inVain);
        c.test("in HOURS that are past, and no others", Promise21RegretTest::pastAlone);
        c.test("from its first HOUR on", Promise21RegretTest::fromFirst);
        c.test("by its DUE", Promise21RegretTest::byDue);
        c.test("whatever the ROOM", Promise21RegretTest::whateverRoom);
        c.test("any PLACE, with what its DATA costs", Promise21RegretTest::withData);
        c.test("the last HOURS", Promise21RegretTest::lastHours);
        c.test("the greatest", Promise21RegretTest::greatest);
        c.test("by FARES as they are", Promise21RegretTest::byFares);
        c.test("a PLACE made later", Promise21RegretTest::laterPlace);
        c.test("it leaves TROUBLE", Promise21RegretTest::leavesTrouble);
        c.end();
    }

    private static void others(Check c) {
        GreenHours x = House.ofAllStates();
        c.due("regret(0), WAITS", x.regret(0), -1);
        c.due("regret(1), BEGUN", x.regret(1), -1);
        c.due("regret(2), DONE", x.regret(2), 0);
        c.due("regret(3), LOST", x.regret(3), -1);
        x.pass(1);
        c.due("regret(1), its last HOUR to come", x.regret(1), -1);
        x.pass(1);
        c.due("regret(1), DONE", x.regret(1), 0);
    }

    private static void noSuch(Check c) {
        c.due("regret(0) without JOBS", new GreenHours().regret(0), -1);
        GreenHours x = House.of(1);
        x.job(0, 0, 1, 0, 1, 0);
        x.pass(1);
        for (int j : new int[] {Check.LEAST, -2, -1, 1, 39, 40, Check.MOST}) {
            c.due("regret(" + j + ")", x.regret(j), -1);
        }
    }

    private static void nothing(Check c) {
        GreenHours x = House.of(1, 1);
        x.green(1, 3, 4, 9);
        x.job(0, 0, 2, 0, 9, 1);
        x.pass(20);
        c.due("regret(0)", x.regret(0), 0);
    }

    private static void inVain(Check c) {
        GreenHours x = House.of(1);
        x.green(0, 4, 4, 499);
        x.job(0, 0, 1, 2, 6, 0);
        x.pass(3);
        x.green(0, 3, 4, 600);
        x.green(0, 5, 5, 550);
        x.pass(3);
        c.due("what it PAID", x.about(0, 3), 550);
        c.due("regret(0): an HOUR ahead was better", x.regret(0), 50);
    }

    private static void pastAlone(Check c) {
        GreenHours x = House.of(1);
        x.job(0, 0, 2, 0, 12, 0);
        x.pass(2);
        c.due("regret(0) at first", x.regret(0), 0);
        x.green(0, 6, 7, 300);
        x.pass(4);
        c.due("regret(0) when NOW is 6", x.regret(0), 0);
        x.pass(1);
        c.due("regret(0) when NOW is 7: from 5 on", x.regret(0), 200);
        x.pass(1);
        c.due("regret(0) when NOW is 8: from 6 on", x.regret(0), 400);
    }

    private static void fromFirst(Check c) {
        GreenHours x = House.of(1);
        x.green(0, 1, 1, 0);
        x.job(0, 0, 1, 2, 6, 0);
        x.pass(20);
        c.due("begun", x.about(0, 2), 2);
        c.due("regret(0): not from 1 on", x.regret(0), 0);
        x = House.of(1);
        x.green(0, 4, 4, 499);
        x.job(0, 0, 1, 2, 6, 0);
        x.pass(4);
        x.green(0, 4, 4, 502);
        x.green(0, 5, 5, 501);
        x.pass(2);
        c.due("begun", x.about(0, 2), 5);
        c.due("regret(0): from 2 on", x.regret(0), 1);
    }

    private static void byDue(Check c) {
        GreenHours x = House.of(1);
        x.job(0, 0, 2, 2, 6, 0);
        x.job(0, 0, 2, 2, 7, 0);
        x.pass(6);
        x.green(0, 6, 6, 0);
        x.pass(9);
        c.due("both DONE", x.count(4), 2);
        c.due("regret(0): its last HOUR would be 6", x.regret(0), 0);
        c.due("regret(1): its last HOUR would be 6, too", x.regret(1), 500);
        x = House.of(1);
        x.job(0, 0, 2, 2, 6, 0);
        x.pass(5);
        x.green(0, 5, 5, 0);
        x.pass(9);
        c.due("regret(0): its last HOUR would be 5", x.regret(0), 500);
    }

    private static void whateverRoom(Check c) {
        GreenHours x = House.of(1);
        x.green(0, 0, 0, 10);
        x.job(0, 0, 1, 0, 9, 0);
        x.job(0, 0, 1, 0, 9, 0);
        x.pass(9);
        c.due("begun, as it must", x.about(1, 2), 1);
        c.due("regret(1): HOUR 0 was full", x.regret(1), 490);
        c.due("regret(0)", x.regret(0), 0);
    }

    private static void withData(Check c) {
        GreenHours x = House.of(1, 1);
        x.job(0, 0, 2, 0, 12, 10);
        x.fare(0, 1, 3);
        x.pass(2);
        x.green(1, 6, 7, 300);
        x.pass(8);
        c.due("begun at HOME", x.about(0, 1), 0);
        c.due("regret(0): elsewhere, with the FARE", x.regret(0), 1000 - 630);
        x = House.of(1, 1);
        x.job(0, 0, 2, 0, 12, 99);
        x.fare(0, 1, 99);
        x.pass(2);
        x.green(1, 6, 7, 0);
        x.pass(8);
        c.due("regret(0): the FARE too great", x.regret(0), 0);
    }

    private static void lastHours(Check c) {
        GreenHours x = House.of(1);
        x.job(0, 0, 2, 290, 300, 0);
        House.passTo(x, 297);
        x.green(0, 297, 299, 1);
        x.pass(2);
        c.due("regret(0) when NOW is 299", x.regret(0), 998);
        x.green(0, 299, 299, 0);
        c.due("regret(0), HOUR 299 is not past", x.regret(0), 998);
    }

    private static void greatest(Check c) {
        GreenHours x = House.of(1);
        x.job(0, 0, 12, 0, 24, 99);
        x.green(0, 0, 299, 999);
        x.pass(12);
        x.green(0, 12, 23, 0);
        x.pass(12);
        c.due("regret(0)", x.regret(0), 12 * 999);
    }

    /** What was PAID is as it was. */
    private static void byFares(Check c) {
        GreenHours x = House.of(1, 1);
        x.green(1, 0, 9, 100);
        x.job(0, 0, 1, 0, 1, 10);
        x.pass(1);
        c.due("PAID with DATA", x.about(0, 3), 110);
        c.due("regret(0)", x.regret(0), 0);
        x.fare(0, 1, 0);
        c.due("regret(0) by a lesser FARE", x.regret(0), 10);
        x.fare(0, 1, 20);
        c.due("regret(0) by a greater FARE", x.regret(0), 110 - 300);
    }

    private static void laterPlace(Check c) {
        GreenHours x = House.of(1);
        x.green(0, 0, 9, 900);
        x.job(0, 0, 1, 0, 9, 7);
        x.pass(2);
        c.due("regret(0)", x.regret(0), 0);
        x.place(1);
        c.due("regret(0): 500 until told, and the FARE", x.regret(0), 900 - 507);
    }

    private static void leavesTrouble(Check c) {
        GreenHours x = House.of(1);
        c.refused("place(0)", x, x.place(0), 2);
        x.regret(0);
        x.regret(-1);
        c.due("trouble()", x.trouble(), 2);
    }
}
