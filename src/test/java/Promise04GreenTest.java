/**
 * Promise 4: "GREEN of a PLACE in HOURS from up to to (it, too; from NOW on) is FORETOLD: true;
 * false: 1; 2."
 */
public final class Promise04GreenTest {
    public static void main(String[] args) {
        Check c = new Check("Promise 4, green");
        c.test("from up to to, it, too", Promise04GreenTest::range);
        c.test("one HOUR alone", Promise04GreenTest::oneHour);
        c.test("HOURS 0 .. 299: the first and the last", Promise04GreenTest::edgesOfHours);
        c.test("HOURS 0 .. 299: too small", Promise04GreenTest::hourTooSmall);
        c.test("HOURS 0 .. 299: too large", Promise04GreenTest::hourTooLarge);
        c.test("from NOW on: a past HOUR", Promise04GreenTest::past);
        c.test("from NOW on: NOW itself", Promise04GreenTest::nowItself);
        c.test("from behind to", Promise04GreenTest::turned);
        c.test("GREEN 0 .. 999: the least and the greatest", Promise04GreenTest::edges);
        c.test("GREEN 0 .. 999: too small", Promise04GreenTest::tooSmall);
        c.test("GREEN 0 .. 999: too large", Promise04GreenTest::tooLarge);
        c.test("1: no such PLACE", Promise04GreenTest::noSuch);
        c.test("1 stands ahead of 2", Promise04GreenTest::noSuchAndWrong);
        c.test("a refused one tells no HOUR", Promise04GreenTest::refusedLeaves);
        c.test("told anew, the latest is it", Promise04GreenTest::latest);
        c.end();
    }

    private static void range(Check c) {
        GreenHours x = House.of(1, 1);
        c.granted("green(0, 2, 4, 7)", x, x.green(0, 2, 4, 7));
        c.due("told(0, 1)", x.told(0, 1), 500);
        c.due("told(0, 2)", x.told(0, 2), 7);
        c.due("told(0, 3)", x.told(0, 3), 7);
        c.due("told(0, 4)", x.told(0, 4), 7);
        c.due("told(0, 5)", x.told(0, 5), 500);
        c.due("told(1, 3)", x.told(1, 3), 500);
    }

    private static void oneHour(Check c) {
        GreenHours x = House.of(1);
        c.granted("green(0, 6, 6, 1)", x, x.green(0, 6, 6, 1));
        c.due("told(0, 5)", x.told(0, 5), 500);
        c.due("told(0, 6)", x.told(0, 6), 1);
        c.due("told(0, 7)", x.told(0, 7), 500);
    }

    private static void edgesOfHours(Check c) {
        GreenHours x = House.of(1, 1);
        c.granted("green(0, 0, 0, 1)", x, x.green(0, 0, 0, 1));
        c.granted("green(0, 299, 299, 2)", x, x.green(0, 299, 299, 2));
        c.due("told(0, 0)", x.told(0, 0), 1);
        c.due("told(0, 1)", x.told(0, 1), 500);
        c.due("told(0, 298)", x.told(0, 298), 500);
        c.due("told(0, 299)", x.told(0, 299), 2);
        c.granted("green(1, 0, 299, 3)", x, x.green(1, 0, 299, 3));
        for (int h = 0; h <= 299; h++) {
            c.due("told(1, " + h + ")", x.told(1, h), 3);
        }
    }

    private static void hourTooSmall(Check c) {
        GreenHours x = House.of(1);
        for (int h : new int[] {-1, -2, Check.LEAST}) {
            c.refused("green(0, " + h + ", 3, 1)", x, x.green(0, h, 3, 1), 2);
            c.refused("green(0, " + h + ", " + h + ", 1)", x, x.green(0, h, h, 1), 2);
        }
    }

    private static void hourTooLarge(Check c) {
        GreenHours x = House.of(1);
        for (int h : new int[] {300, 301, Check.MOST}) {
            c.refused("green(0, 0, " + h + ", 1)", x, x.green(0, 0, h, 1), 2);
            c.refused("green(0, 299, " + h + ", 1)", x, x.green(0, 299, h, 1), 2);
            c.refused("green(0, " + h + ", " + h + ", 1)", x, x.green(0, h, h, 1), 2);
        }
        c.refused("from the least up to the greatest", x, x.green(0, Check.LEAST, Check.MOST, 1), 2);
    }

    private static void past(Check c) {
        GreenHours x = House.of(1);
        x.green(0, 0, 9, 30);
        x.pass(4);
        c.refused("green(0, 3, 9, 1)", x, x.green(0, 3, 9, 1), 2);
        c.refused("green(0, 3, 3, 1)", x, x.green(0, 3, 3, 1), 2);
        c.refused("green(0, 0, 3, 1)", x, x.green(0, 0, 3, 1), 2);
        for (int h = 0; h <= 9; h++) {
            c.due("told(0, " + h + ")", x.told(0, h), 30);
        }
    }

    private static void nowItself(Check c) {
        GreenHours x = House.of(1);
        x.green(0, 0, 9, 30);
        x.pass(4);
        c.granted("green(0, 4, 4, 1)", x, x.green(0, 4, 4, 1));
        c.due("told(0, 3)", x.told(0, 3), 30);
        c.due("told(0, 4)", x.told(0, 4), 1);
        c.due("told(0, 5)", x.told(0, 5), 30);
        House.passTo(x, 299);
        c.granted("green(0, 299, 299, 8)", x, x.green(0, 299, 299, 8));
        c.due("told(0, 299)", x.told(0, 299), 8);
    }

    private static void turned(Check c) {
        GreenHours x = House.of(1);
        c.refused("green(0, 3, 2, 1)", x, x.green(0, 3, 2, 1), 2);
        c.refused("green(0, 299, 0, 1)", x, x.green(0, 299, 0, 1), 2);
        c.refused("green(0, 0, -1, 1)", x, x.green(0, 0, -1, 1), 2);
        c.refused("green(0, 0, the least, 1)", x, x.green(0, 0, Check.LEAST, 1), 2);
        c.refused("green(0, the greatest, the least, 1)", x,
            x.green(0, Check.MOST, Check.LEAST, 1), 2);
    }

    private static void edges(Check c) {
        GreenHours x = House.of(1);
        c.granted("green(0, 0, 1, 0)", x, x.green(0, 0, 1, 0));
        c.due("told(0, 1)", x.told(0, 1), 0);
        c.granted("green(0, 0, 1, 999)", x, x.green(0, 0, 1, 999));
        c.due("told(0, 1)", x.told(0, 1), 999);
    }

    private static void tooSmall(Check c) {
        GreenHours x = House.of(1);
        for (int v : new int[] {-1, -2, Check.LEAST}) {
            c.refused("green(0, 0, 3, " + v + ")", x, x.green(0, 0, 3, v), 2);
        }
    }

    private static void tooLarge(Check c) {
        GreenHours x = House.of(1);
        for (int v : new int[] {1000, 1001, Check.MOST}) {
            c.refused("green(0, 0, 3, " + v + ")", x, x.green(0, 0, 3, v), 2);
        }
    }

    private static void noSuch(Check c) {
        GreenHours x = House.of(1);
        for (int p : new int[] {Check.LEAST, -1, 1, 4, Check.MOST}) {
            c.refused("green(" + p + ", 0, 0, 1)", x, x.green(p, 0, 0, 1), 1);
        }
    }

    private static void noSuchAndWrong(Check c) {
        GreenHours x = House.of(1);
        c.refused("green(1, 0, 300, 1)", x, x.green(1, 0, 300, 1), 1);
        c.refused("green(-1, 0, 0, 1000)", x, x.green(-1, 0, 0, 1000), 1);
        c.refused("green(1, 5, 4, 1)", x, x.green(1, 5, 4, 1), 1);
    }

    private static void refusedLeaves(Check c) {
        GreenHours x = House.of(1);
        x.green(0, 0, 300, 1);
        x.green(0, -1, 299, 1);
        x.green(0, 0, 299, 1000);
        x.green(0, 0, 299, -1);
        x.green(1, 0, 299, 1);
        x.green(0, 299, 0, 1);
        for (int h = 0; h <= 299; h++) {
            c.due("told(0, " + h + ")", x.told(0, h), 500);
        }
    }

    private static void latest(Check c) {
        GreenHours x = House.of(1);
        x.green(0, 0, 9, 1);
        x.green(0, 5, 6, 2);
        c.due("told(0, 4)", x.told(0, 4), 1);
        c.due("told(0, 5)", x.told(0, 5), 2);
        c.due("told(0, 6)", x.told(0, 6), 2);
        c.due("told(0, 7)", x.told(0, 7), 1);
    }
}
