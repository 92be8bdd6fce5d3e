/** Promise 6: "PATIENCE becomes it: true; false (2)." */
public final class Promise06PatienceTest {
    public static void main(String[] args) {
        Check c = new Check("Promise 6, patience");
        c.test("24 at first", Promise06PatienceTest::atFirst);
        c.test("PATIENCE becomes it", Promise06PatienceTest::becomes);
        c.test("PATIENCE 1 .. 500: the least", Promise06PatienceTest::least);
        c.test("PATIENCE 1 .. 500: the greatest", Promise06PatienceTest::greatest);
        c.test("PATIENCE 1 .. 500: too small", Promise06PatienceTest::tooSmall);
        c.test("PATIENCE 1 .. 500: too large", Promise06PatienceTest::tooLarge);
        c.test("a refused one leaves PATIENCE", Promise06PatienceTest::refusedLeaves);
        c.end();
    }

    private static void atFirst(Check c) {
        c.due("behind(3) with DELAY 24", House.delayed(3, 24, 1).behind(3), 0);
        c.due("behind(3) with DELAY 25", House.delayed(3, 25, 1).behind(3), 1);
    }

    private static void becomes(Check c) {
        GreenHours x = House.delayed(3, 24, 1);
        c.granted("patience(23)", x, x.patience(23));
        c.due("behind(3), 24 above 23", x.behind(3), 1);
        c.granted("patience(24)", x, x.patience(24));
        c.due("behind(3), 24 not above 24", x.behind(3), 0);
    }

    private static void least(Check c) {
        GreenHours x = House.delayed(3, 1, 1);
        c.granted("patience(1)", x, x.patience(1));
        c.due("behind(3) with DELAY 1", x.behind(3), 0);
        x = House.delayed(3, 2, 1);
        c.granted("patience(1)", x, x.patience(1));
        c.due("behind(3) with DELAY 2", x.behind(3), 1);
    }

    /** One of DELAY 250 and one of delay HOURS: both wait for the same HOUR. */
    private static GreenHours longDelayed(int delay) {
        GreenHours x = House.of(2);
        x.green(0, 0, 259, 999);
        x.green(0, 260, 260, 0);
        x.job(3, 0, 1, 10, 261, 0);
        x.job(3, 0, 1, 260 - delay, 261, 0);
        x.patience(500);
        House.passTo(x, 261);
        return x;
    }

    private static void greatest(Check c) {
        GreenHours x = longDelayed(250);
        c.due("delay(3)", x.delay(3), 500);
        c.granted("patience(500)", x, x.patience(500));
        c.due("behind(3) with DELAY 500", x.behind(3), 0);
        c.granted("patience(499)", x, x.patience(499));
        c.due("behind(3), 500 above 499", x.behind(3), 1);
        x = longDelayed(251);
        c.due("delay(3)", x.delay(3), 501);
        c.due("behind(3) with DELAY 501", x.behind(3), 1);
    }

    private static void tooSmall(Check c) {
        GreenHours x = new GreenHours();
        for (int v : new int[] {0, -1, Check.LEAST}) {
            c.refused("patience(" + v + ")", x, x.patience(v), 2);
        }
    }

    private static void tooLarge(Check c) {
        GreenHours x = new GreenHours();
        for (int v : new int[] {501, 502, Check.MOST}) {
            c.refused("patience(" + v + ")", x, x.patience(v), 2);
        }
    }

    private static void refusedLeaves(Check c) {
        GreenHours x = House.delayed(3, 10, 1);
        x.patience(9);
        c.refused("patience(501)", x, x.patience(501), 2);
        c.due("behind(3), 10 above 9", x.behind(3), 1);
        x.patience(10);
        c.refused("patience(0)", x, x.patience(0), 2);
        c.due("behind(3), 10 not above 10", x.behind(3), 0);
    }
}
