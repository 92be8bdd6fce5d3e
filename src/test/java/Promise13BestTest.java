/**
 * Promise 13: "The least COST that LAYINGS of all JOBS that WAIT can have together by what is
 * FORETOLD, if they are 3 at most and all can be laid; NONE: 4 (they are more, or can't; 0 without
 * any). (OWNERS are of no matter.)"
 */
public final class Promise13BestTest {
    public static void main(String[] args) {
        Check c = new Check("Promise 13, best");
        c.test("0 without any", Promise13BestTest::withoutAny);
        c.test("of one, of two, of three", Promise13BestTest::upToThree);
        c.test("4: they are more than 3", Promise13BestTest::four);
        c.test("those BEGUN, DONE and LOST are not counted", Promise13BestTest::othersDontCount);
        c.test("4: they can't", Promise13BestTest::cannot);
        c.test("4: they can't beside one BEGUN", Promise13BestTest::cannotBesideBegun);
        c.test("COST 0 of JOBS is not NONE", Promise13BestTest::nothing);
        c.test("the greatest COST", Promise13BestTest::greatest);
        c.test("within ROOM", Promise13BestTest::withinRoom);
        c.test("from the HOUR on and by DUE", Promise13BestTest::withinHours);
        c.test("from NOW on", Promise13BestTest::fromNowOn);
        c.test("the last HOUR", Promise13BestTest::lastHour);
        c.test("OWNERS are of no matter", Promise13BestTest::owners);
        c.test("it changes nothing", Promise13BestTest::changesNothing);
        c.test("around two dear HOURS", Promise13BestTest::aroundDearHours);
        c.test("where others take the 46 cheapest LAYINGS", Promise13BestTest::cheapestTaken);
        c.test("where those BEGUN take the cheapest", Promise13BestTest::cheapestBesideBegun);
        c.end();
    }

    private static void withoutAny(Check c) {
        GreenHours x = new GreenHours();
        c.granted("best() without PLACES", x, x.best(), 0);
        x.place(1);
        c.granted("best() without JOBS", x, x.best(), 0);
        x.job(0, 0, 1, 0, 9, 0);
        x.drop(0);
        c.granted("best() when none WAITS", x, x.best(), 0);
    }

    private static void upToThree(Check c) {
        GreenHours x = House.of(1);
        x.green(0, 0, 0, 5);
        x.green(0, 1, 1, 4);
        x.green(0, 2, 2, 9);
        x.job(0, 0, 1, 0, 2, 0);
        c.granted("best() of one", x, x.best(), 4);
        x.job(0, 0, 2, 0, 3, 0);
        c.due("lay() lays but one of both", x.lay(), 1);
        c.granted("best() of two", x, x.best(), 5 + 13);
        x.job(0, 0, 1, 0, 9, 0);
        c.granted("best() of three", x, x.best(), 518);
        x.place(1);
        x.fare(0, 1, 60);
        x.green(1, 0, 0, 100);
        c.granted("best() with another PLACE", x, x.best(), 5 + 13 + 100);
    }

    private static void four(Check c) {
        GreenHours x = House.of(9);
        for (int i = 0; i < 3; i++) {
            x.job(0, 0, 1, 0, 99, 0);
        }
        c.granted("best() of three", x, x.best(), 1500);
        x.job(0, 0, 1, 0, 99, 0);
        c.refused("best() of four", x, x.best(), 4);
        x.drop(1);
        c.granted("best() of three again", x, x.best(), 1500);
        for (int i = 4; i < 40; i++) {
            x.job(0, 0, 1, 0, 99, 0);
        }
        c.refused("best() of 39", x, x.best(), 4);
    }

    private static void othersDontCount(Check c) {
        GreenHours x = House.ofAllStates();
        c.granted("best() of one beside three others", x, x.best(), 500);
        x.job(0, 0, 1, 4, 9, 0);
        x.job(0, 0, 1, 4, 9, 0);
        c.granted("best() of three beside three others", x, x.best(), 1500);
        x.job(0, 0, 1, 4, 9, 0);
        c.refused("best() of four beside three others", x, x.best(), 4);
    }

    private static void cannot(Check c) {
        GreenHours x = House.of(1);
        x.job(0, 0, 3, 0, 5, 0);
        x.job(0, 0, 3, 0, 5, 0);
        c.refused("best() of two", x, x.best(), 4);
        x.drop(1);
        c.granted("best() of one", x, x.best(), 1500);
        x.job(0, 0, 3, 0, 6, 0);
        c.granted("best() of two with an HOUR more", x, x.best(), 3000);
        x.job(0, 0, 1, 0, 6, 0);
        c.refused("best() of three", x, x.best(), 4);
    }

    private static void cannotBesideBegun(Check c) {
        GreenHours x = House.of(1);
        x.job(0, 0, 4, 0, 4, 0);
        x.pass(1);
        x.job(0, 0, 2, 1, 5, 0);
        c.refused("best()", x, x.best(), 4);
        x.drop(1);
        x.job(0, 0, 2, 1, 6, 0);
        c.granted("best() with an HOUR more", x, x.best(), 1000);
    }

    private static void nothing(Check c) {
        GreenHours x = House.of(1);
        x.green(0, 0, 299, 0);
        x.job(0, 0, 12, 0, 36, 99);
        x.job(0, 0, 12, 0, 36, 99);
        x.job(0, 0, 12, 0, 36, 99);
        c.granted("best()", x, x.best(), 0);
    }

    /** HOME is full, so that the DATA of all three must be brought elsewhere. */
    private static void greatest(Check c) {
        GreenHours x = House.of(1, 3);
        x.job(0, 0, 12, 0, 12, 99);
        x.pass(1);
        x.green(1, 1, 299, 999);
        x.fare(0, 1, 99);
        for (int i = 0; i < 3; i++) {
            x.job(0, 0, 12, 1, 13, 99);
        }
        c.granted("best()", x, x.best(), 3 * (12 * 999 + 99 * 99));
    }

    private static void withinRoom(Check c) {
        GreenHours x = House.of(2);
        x.green(0, 10, 11, 1);
        x.job(0, 0, 2, 0, 20, 0);
        x.job(0, 0, 2, 0, 20, 0);
        c.granted("best() of two in a ROOM of 2", x, x.best(), 4);
        x.job(0, 0, 2, 0, 20, 0);
        c.granted("best() of three in a ROOM of 2", x, x.best(), 1004);
        x.place(1);
        x.green(1, 17, 19, 7);
        c.granted("best() with one elsewhere", x, x.best(), 18);
    }

    private static void withinHours(Check c) {
        GreenHours x = House.of(1);
        x.job(0, 0, 2, 4, 8, 0);
        x.green(0, 3, 3, 0);
        x.green(0, 8, 8, 0);
        c.granted("best() with HOURS on either side", x, x.best(), 1000);
        x.green(0, 4, 4, 2);
        c.granted("best() from the first HOUR on", x, x.best(), 502);
        x.green(0, 7, 7, 1);
        c.granted("best() up to the last HOUR", x, x.best(), 501);
    }

    private static void fromNowOn(Check c) {
        GreenHours x = House.of(1);
        x.green(0, 0, 2, 400);
        x.green(0, 10, 10, 100);
        x.job(0, 0, 1, 0, 20, 0);
        x.pass(3);
        x.green(0, 10, 10, 500);
        c.granted("best()", x, x.best(), 500);
        x.green(0, 3, 3, 450);
        c.granted("best() of NOW", x, x.best(), 450);
    }

    private static void lastHour(Check c) {
        GreenHours x = House.of(1);
        x.green(0, 299, 299, 3);
        x.job(0, 0, 1, 299, 300, 0);
        c.granted("best() from afar", x, x.best(), 3);
        House.passTo(x, 299);
        c.granted("best() when NOW is 299", x, x.best(), 3);
    }

    private static void owners(Check c) {
        GreenHours x = House.delayed(2, 3, 1);
        x.patience(2);
        x.green(0, 25, 25, 3);
        x.job(2, 0, 1, 4, 30, 0);
        x.lay();
        c.due("cost() of one BEHIND", x.cost(), 500);
        c.granted("best() of one BEHIND", x, x.best(), 3);
    }

    private static void changesNothing(Check c) {
        GreenHours x = House.of(1, 1);
        for (int i = 0; i < 3; i++) {
            x.job(i, 0, 2, 0, 6, 5);
        }
        x.lay();
        String before = House.look(x);
        x.best();
        c.same("the house", House.look(x), before);
        for (int h = 0; h <= 6; h++) {
            c.due("free(0, " + h + ")", x.free(0, h), 1);
            c.due("free(1, " + h + ")", x.free(1, h), 1);
        }
        x.job(0, 0, 2, 0, 6, 5);
        before = House.look(x);
        x.best();
        c.same("the house behind a refused one", House.look(x), before);
    }

    private static void aroundDearHours(Check c) {
        GreenHours x = House.of(1);
        x.green(0, 100, 146, 10);
        for (int i = 0; i < 3; i++) {
            x.job(i, 0, 12, 0, 300, 0);
        }
        c.granted("best() of three long ones", x, x.best(), 360);
        x.green(0, 111, 111, 600);
        x.green(0, 135, 135, 600);
        // From 99 on, from 112 on and from 136 on.
        c.granted("best() around two dear HOURS", x, x.best(), 610 + 120 + 610);
    }

    /** The other two must stand in the way of 23 LAYINGS each, which are the 46 cheapest. */
    private static void cheapestTaken(Check c) {
        GreenHours x = House.of(1);
        x.green(0, 0, 299, 999);
        x.green(0, 19, 52, 1);
        x.green(0, 59, 92, 1);
        x.job(0, 0, 12, 0, 300, 0);
        x.job(0, 0, 12, 30, 42, 0);
        x.job(0, 0, 12, 70, 82, 0);
        c.granted("the 47th cheapest", x, x.best(), 999 + 11 + 12 + 12);
        x.green(0, 93, 93, 500);
        c.granted("the 47th cheapest, behind all others", x, x.best(), 500 + 11 + 12 + 12);
    }

    private static void cheapestBesideBegun(Check c) {
        GreenHours x = House.of(1, 1, 1, 1);
        for (int p = 0; p < 4; p++) {
            x.job(0, p, 12, 0, 12, 0);
        }
        x.pass(1);
        c.due("BEGUN", x.count(3), 4);
        for (int p = 0; p < 4; p++) {
            x.green(p, 1, 22, 0);
        }
        x.green(0, 23, 25, 0);
        for (int i = 0; i < 3; i++) {
            x.job(0, 0, 12, 1, 40, 0);
        }
        c.granted("one at PLACE 0, two elsewhere", x, x.best(), 1000);
    }
}
