/** Promise 14: "How much ROOM a PLACE has in an HOUR (from NOW on) beside those BEGUN; NONE." */
public final class Promise14FreeTest {
    public static void main(String[] args) {
        Check c = new Check("Promise 14, free");
        c.test("the whole ROOM where none is BEGUN", Promise14FreeTest::whole);
        c.test("beside those BEGUN, in their HOURS alone", Promise14FreeTest::besideBegun);
        c.test("0 where it is full", Promise14FreeTest::full);
        c.test("what is laid or WAITS takes none", Promise14FreeTest::laidTakesNone);
        c.test("from NOW on: a past HOUR", Promise14FreeTest::past);
        c.test("from NOW on: NOW itself", Promise14FreeTest::nowItself);
        c.test("HOURS up to 299: the last", Promise14FreeTest::lastHour);
        c.test("HOURS: too small, too large", Promise14FreeTest::noHour);
        c.test("no such PLACE", Promise14FreeTest::noSuch);
        c.test("it leaves TROUBLE", Promise14FreeTest::leavesTrouble);
        c.end();
    }

    private static void whole(Check c) {
        GreenHours x = House.of(1, 9);
        for (int h : new int[] {0, 1, 150, 299}) {
            c.due("free(0, " + h + ")", x.free(0, h), 1);
            c.due("free(1, " + h + ")", x.free(1, h), 9);
        }
    }

    private static void besideBegun(Check c) {
        GreenHours x = House.of(3, 1);
        x.job(0, 0, 3, 0, 3, 9);
        x.job(0, 0, 2, 0, 2, 9);
        x.pass(1);
        c.due("free(0, 1)", x.free(0, 1), 1);
        c.due("free(0, 2)", x.free(0, 2), 2);
        c.due("free(0, 3)", x.free(0, 3), 3);
        c.due("free(1, 1)", x.free(1, 1), 1);
    }

    private static void full(Check c) {
        GreenHours x = House.of(1);
        x.job(0, 0, 12, 0, 12, 0);
        x.pass(1);
        for (int h = 1; h <= 11; h++) {
            c.due("free(0, " + h + ")", x.free(0, h), 0);
        }
        c.due("free(0, 12)", x.free(0, 12), 1);
        x = House.of(9);
        for (int i = 0; i < 10; i++) {
            x.job(0, 0, 2, 0, 2, 0);
        }
        x.pass(1);
        c.due("free(0, 1) with ROOM 9", x.free(0, 1), 0);
    }

    private static void laidTakesNone(Check c) {
        GreenHours x = House.of(2);
        x.job(0, 0, 3, 0, 3, 0);
        x.job(0, 0, 1, 5, 6, 0);
        x.lay();
        c.due("free(0, 0) behind lay()", x.free(0, 0), 2);
        c.due("free(0, 5) behind lay()", x.free(0, 5), 2);
        x.pass(1);
        c.due("free(0, 1) behind pass(1)", x.free(0, 1), 1);
        c.due("free(0, 5) behind pass(1)", x.free(0, 5), 2);
    }

    private static void past(Check c) {
        GreenHours x = House.of(1);
        x.pass(5);
        c.due("free(0, 4)", x.free(0, 4), -1);
        c.due("free(0, 0)", x.free(0, 0), -1);
    }

    private static void nowItself(Check c) {
        GreenHours x = House.of(4);
        c.due("free(0, 0) when NOW is 0", x.free(0, 0), 4);
        x.pass(5);
        c.due("free(0, 5) when NOW is 5", x.free(0, 5), 4);
    }

    private static void lastHour(Check c) {
        GreenHours x = House.of(4);
        x.job(0, 0, 12, 288, 300, 0);
        c.due("free(0, 299) when NOW is 0", x.free(0, 299), 4);
        House.passTo(x, 299);
        c.due("free(0, 299) when NOW is 299", x.free(0, 299), 3);
        c.due("free(0, 298) when NOW is 299", x.free(0, 298), -1);
    }

    private static void noHour(Check c) {
        GreenHours x = House.of(1);
        for (int h : new int[] {Check.LEAST, -2, -1, 300, 301, Check.MOST}) {
            c.due("free(0, " + h + ")", x.free(0, h), -1);
        }
    }

    private static void noSuch(Check c) {
        c.due("free(0, 0) without PLACES", new GreenHours().free(0, 0), -1);
        GreenHours x = House.of(1, 1);
        for (int p : new int[] {Check.LEAST, -1, 2, 3, 4, Check.MOST}) {
            c.due("free(" + p + ", 0)", x.free(p, 0), -1);
        }
    }

    private static void leavesTrouble(Check c) {
        GreenHours x = House.of(1);
        c.refused("place(0)", x, x.place(0), 2);
        x.free(0, 0);
        x.free(0, 300);
        x.free(9, 0);
        c.due("trouble()", x.trouble(), 2);
    }
}
