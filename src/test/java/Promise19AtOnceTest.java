/**
 * Promise 19: "AT ONCE", "what all JOBS that are DONE would have cost, each at its HOME from the HOUR
 * on from which it might begin, whatever the ROOM, by TRUE numbers (its HOURS are all past)".
 */
public final class Promise19AtOnceTest {
    public static void main(String[] args) {
        Check c = new Check("Promise 19, atOnce");
        c.test("0 without any DONE", Promise19AtOnceTest::withoutAny);
        c.test("those DONE alone", Promise19AtOnceTest::doneAlone);
        c.test("at its HOME, without a FARE", Promise19AtOnceTest::atHome);
        c.test("from the HOUR on from which it might", Promise19AtOnceTest::fromItsHour);
        c.test("whatever the ROOM", Promise19AtOnceTest::whateverRoom);
        c.test("by TRUE numbers", Promise19AtOnceTest::byTrueNumbers);
        c.test("the last HOURS", Promise19AtOnceTest::lastHours);
        c.test("it leaves TROUBLE", Promise19AtOnceTest::leavesTrouble);
        c.end();
    }

    private static void withoutAny(Check c) {
        c.due("atOnce() without JOBS", new GreenHours().atOnce(), 0);
        GreenHours x = House.of(1);
        x.job(0, 0, 3, 0, 3, 0);
        x.job(0, 0, 3, 0, 3, 0);
        x.job(0, 0, 3, 5, 9, 0);
        x.pass(2);
        c.due("one BEGUN, one LOST, one that WAITS", x.count(3) * 100 + x.count(5) * 10 + x.count(2),
            111);
        c.due("atOnce() of those", x.atOnce(), 0);
    }

    private static void doneAlone(Check c) {
        GreenHours x = House.ofAllStates();
        c.due("atOnce() of one DONE", x.atOnce(), 500);
        x.pass(2);
        c.due("atOnce() of two", x.atOnce(), 500 + 1500);
        x.pass(20);
        c.due("atOnce() of three", x.atOnce(), 500 + 1500 + 500);
    }

    private static void atHome(Check c) {
        GreenHours x = House.of(1, 1);
        x.green(1, 0, 1, 1);
        x.job(0, 0, 2, 0, 2, 9);
        x.pass(2);
        c.due("done elsewhere", x.about(0, 1), 1);
        c.due("atOnce()", x.atOnce(), 1000);
        x.fare(0, 1, 99);
        c.due("atOnce() by another FARE", x.atOnce(), 1000);
    }

    private static void fromItsHour(Check c) {
        GreenHours x = House.of(1);
        x.green(0, 0, 1, 900);
        x.green(0, 2, 2, 800);
        x.green(0, 3, 3, 700);
        x.green(0, 4, 5, 1);
        x.job(0, 0, 2, 2, 6, 0);
        x.pass(6);
        c.due("begun later", x.about(0, 2), 4);
        c.due("atOnce()", x.atOnce(), 800 + 700);
    }

    private static void whateverRoom(Check c) {
        GreenHours x = House.of(1);
        x.green(0, 0, 0, 30);
        for (int i = 0; i < 3; i++) {
            x.job(0, 0, 1, 0, 9, 0);
        }
        x.pass(9);
        c.due("paid()", x.paid(), 30 + 1000);
        c.due("atOnce()", x.atOnce(), 90);
    }

    private static void byTrueNumbers(Check c) {
        GreenHours x = House.of(1);
        x.green(0, 0, 9, 700);
        x.green(0, 8, 9, 5);
        x.job(0, 0, 2, 1, 10, 0);
        x.pass(2);
        x.green(0, 2, 2, 600);
        x.pass(8);
        c.due("begun later", x.about(0, 2), 8);
        c.due("atOnce()", x.atOnce(), 700 + 600);
    }

    private static void lastHours(Check c) {
        GreenHours x = House.of(1);
        x.green(0, 287, 298, 7);
        x.job(0, 0, 12, 287, 299, 0);
        House.passTo(x, 299);
        c.due("DONE", x.count(4), 1);
        c.due("atOnce()", x.atOnce(), 84);
    }

    private static void leavesTrouble(Check c) {
        GreenHours x = House.of(1);
        c.refused("place(0)", x, x.place(0), 2);
        x.atOnce();
        c.due("trouble()", x.trouble(), 2);
    }
}
