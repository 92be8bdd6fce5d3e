/** Promise 5: "FORETOLD (or TRUE, of a past one) GREEN of a PLACE in an HOUR; NONE." */
public final class Promise05ToldTest {
    public static void main(String[] args) {
        Check c = new Check("Promise 5, told");
        c.test("FORETOLD, 500 until told", Promise05ToldTest::foretold);
        c.test("TRUE of a past one", Promise05ToldTest::pastOnes);
        c.test("HOURS 0 .. 299: the first and the last", Promise05ToldTest::edges);
        c.test("HOURS 0 .. 299: too small", Promise05ToldTest::hourTooSmall);
        c.test("HOURS 0 .. 299: too large", Promise05ToldTest::hourTooLarge);
        c.test("no such PLACE", Promise05ToldTest::noSuch);
        c.test("GREEN 0 is not NONE", Promise05ToldTest::nothing);
        c.test("it leaves TROUBLE", Promise05ToldTest::leavesTrouble);
        c.end();
    }

    private static void foretold(Check c) {
        GreenHours x = House.of(1, 1);
        c.due("told(1, 8) until told", x.told(1, 8), 500);
        x.green(1, 8, 8, 77);
        c.due("told(1, 8)", x.told(1, 8), 77);
        c.due("told(0, 8)", x.told(0, 8), 500);
    }

    private static void pastOnes(Check c) {
        GreenHours x = House.of(1);
        x.green(0, 2, 2, 10);
        x.pass(2);
        x.green(0, 2, 2, 20);
        c.due("told(0, 2), FORETOLD anew when NOW is 2", x.told(0, 2), 20);
        x.pass(1);
        c.due("told(0, 2), TRUE", x.told(0, 2), 20);
        x.green(0, 2, 2, 30);
        x.green(0, 3, 9, 40);
        x.pass(5);
        c.due("told(0, 2), TRUE later", x.told(0, 2), 20);
        c.due("told(0, 1), never told", x.told(0, 1), 500);
    }

    private static void edges(Check c) {
        GreenHours x = House.of(1);
        x.green(0, 0, 0, 1);
        x.green(0, 299, 299, 2);
        c.due("told(0, 0)", x.told(0, 0), 1);
        c.due("told(0, 299)", x.told(0, 299), 2);
        House.passTo(x, 299);
        c.due("told(0, 0), past", x.told(0, 0), 1);
        c.due("told(0, 299), NOW", x.told(0, 299), 2);
    }

    private static void hourTooSmall(Check c) {
        GreenHours x = House.of(1);
        for (int h : new int[] {-1, -2, Check.LEAST}) {
            c.due("told(0, " + h + ")", x.told(0, h), -1);
        }
    }

    private static void hourTooLarge(Check c) {
        GreenHours x = House.of(1);
        for (int h : new int[] {300, 301, Check.MOST}) {
            c.due("told(0, " + h + ")", x.told(0, h), -1);
        }
    }

    private static void noSuch(Check c) {
        GreenHours x = House.of(1, 1);
        for (int p : new int[] {Check.LEAST, -1, 2, 3, 4, Check.MOST}) {
            c.due("told(" + p + ", 0)", x.told(p, 0), -1);
        }
    }

    private static void nothing(Check c) {
        GreenHours x = House.of(1);
        x.green(0, 3, 3, 0);
        c.due("told(0, 3)", x.told(0, 3), 0);
    }

    private static void leavesTrouble(Check c) {
        GreenHours x = House.of(1);
        c.refused("fare(0, 0, 0)", x, x.fare(0, 0, 0), 1);
        x.told(0, 0);
        x.told(0, 300);
        x.told(9, 0);
        c.due("trouble()", x.trouble(), 1);
    }
}
