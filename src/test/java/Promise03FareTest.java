/** Promise 3: "The FARE between two PLACES: true; false: 1 (also of one and itself); 2." */
public final class Promise03FareTest {
    public static void main(String[] args) {
        Check c = new Check("Promise 3, fare");
        c.test("1 until told", Promise03FareTest::untilTold);
        c.test("between two PLACES, there and back", Promise03FareTest::bothWays);
        c.test("FARE 0 .. 99: the least and the greatest", Promise03FareTest::edges);
        c.test("FARE 0 .. 99: too small", Promise03FareTest::tooSmall);
        c.test("FARE 0 .. 99: too large", Promise03FareTest::tooLarge);
        c.test("1: no such PLACE", Promise03FareTest::noSuch);
        c.test("1: also of one and itself", Promise03FareTest::itself);
        c.test("1 stands ahead of 2", Promise03FareTest::noSuchAndWrong);
        c.test("a refused one leaves FARES", Promise03FareTest::refusedLeaves);
        c.test("told anew, the latest is it", Promise03FareTest::latest);
        c.test("a PLACE made later leaves FARES", Promise03FareTest::laterPlace);
        c.end();
    }

    /** JOBS 0, 1, 2 with DATA 10 and their HOMES 0, 1, 2. */
    private static GreenHours three() {
        GreenHours x = House.of(1, 1, 1);
        for (int p = 0; p < 3; p++) {
            x.job(0, p, 1, 0, 10, 10);
        }
        return x;
    }

    private static void fareIs(Check c, GreenHours x, int one, int other, int v) {
        c.due("from " + one + " to " + other, x.would(one, other, 0), 500 + 10 * v);
    }

    private static void untilTold(Check c) {
        GreenHours x = three();
        for (int one = 0; one < 3; one++) {
            for (int other = 0; other < 3; other++) {
                fareIs(c, x, one, other, one == other ? 0 : 1);
            }
        }
    }

    private static void bothWays(Check c) {
        GreenHours x = three();
        c.granted("fare(0, 1, 7)", x, x.fare(0, 1, 7));
        fareIs(c, x, 0, 1, 7);
        fareIs(c, x, 1, 0, 7);
        fareIs(c, x, 0, 2, 1);
        fareIs(c, x, 2, 1, 1);
        c.granted("fare(2, 0, 8)", x, x.fare(2, 0, 8));
        fareIs(c, x, 2, 0, 8);
        fareIs(c, x, 0, 2, 8);
        fareIs(c, x, 0, 1, 7);
    }

    private static void edges(Check c) {
        GreenHours x = three();
        c.granted("fare(0, 1, 0)", x, x.fare(0, 1, 0));
        fareIs(c, x, 0, 1, 0);
        c.granted("fare(0, 1, 99)", x, x.fare(0, 1, 99));
        fareIs(c, x, 0, 1, 99);
    }

    private static void tooSmall(Check c) {
        GreenHours x = three();
        for (int v : new int[] {-1, -2, Check.LEAST}) {
            c.refused("fare(0, 1, " + v + ")", x, x.fare(0, 1, v), 2);
        }
    }

    private static void tooLarge(Check c) {
        GreenHours x = three();
        for (int v : new int[] {100, 101, Check.MOST}) {
            c.refused("fare(0, 1, " + v + ")", x, x.fare(0, 1, v), 2);
        }
    }

    private static void noSuch(Check c) {
        GreenHours x = three();
        for (int p : new int[] {Check.LEAST, -1, 3, 4, Check.MOST}) {
            c.refused("fare(0, " + p + ", 5)", x, x.fare(0, p, 5), 1);
            c.refused("fare(" + p + ", 0, 5)", x, x.fare(p, 0, 5), 1);
            c.refused("fare(" + p + ", " + p + ", 5)", x, x.fare(p, p, 5), 1);
        }
    }

    private static void itself(Check c) {
        GreenHours x = three();
        for (int p = 0; p < 3; p++) {
            c.refused("fare(" + p + ", " + p + ", 5)", x, x.fare(p, p, 5), 1);
            fareIs(c, x, p, p, 0);
        }
    }

    private static void noSuchAndWrong(Check c) {
        GreenHours x = three();
        c.refused("fare(0, 3, 100)", x, x.fare(0, 3, 100), 1);
        c.refused("fare(-1, 0, -1)", x, x.fare(-1, 0, -1), 1);
        c.refused("fare(1, 1, -1)", x, x.fare(1, 1, -1), 1);
    }

    private static void refusedLeaves(Check c) {
        GreenHours x = three();
        x.fare(0, 1, 40);
        String before = House.look(x);
        x.fare(0, 1, -1);
        x.fare(0, 1, 100);
        x.fare(0, 3, 5);
        x.fare(1, 1, 5);
        c.same("the house", House.look(x), before);
    }

    private static void latest(Check c) {
        GreenHours x = three();
        x.fare(0, 1, 40);
        c.granted("fare(1, 0, 3)", x, x.fare(1, 0, 3));
        fareIs(c, x, 0, 1, 3);
        fareIs(c, x, 1, 0, 3);
    }

    private static void laterPlace(Check c) {
        GreenHours x = three();
        x.fare(0, 1, 40);
        x.place(1);
        fareIs(c, x, 0, 1, 40);
        fareIs(c, x, 0, 3, 1);
        c.granted("fare(3, 0, 2)", x, x.fare(3, 0, 2));
        fareIs(c, x, 0, 3, 2);
    }
}
