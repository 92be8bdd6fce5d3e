/**
 * Promise 25: "TROUBLE", "of the latest call that may be refused: 0 it wasn't; 1 there is none such;
 * 2 a number; 3 no room (no HOUR left); 4 not so".
 */
public final class Promise25TroubleTest {
    public static void main(String[] args) {
        Check c = new Check("Promise 25, trouble");
        c.test("0 ahead of any call", Promise25TroubleTest::atFirst);
        c.test("1 there is none such", Promise25TroubleTest::noSuch);
        c.test("2 a number", Promise25TroubleTest::number);
        c.test("3 no room", Promise25TroubleTest::noRoom);
        c.test("3 no HOUR left", Promise25TroubleTest::noHourLeft);
        c.test("4 not so", Promise25TroubleTest::notSo);
        c.test("0 behind each call that wasn't refused", Promise25TroubleTest::fine);
        c.test("of the latest call that may be refused", Promise25TroubleTest::latest);
        c.test("asked again, it stays", Promise25TroubleTest::askedAgain);
        c.test("calls that can't be refused leave it", Promise25TroubleTest::left);
        c.end();
    }

    private static void atFirst(Check c) {
        GreenHours x = new GreenHours();
        c.due("trouble()", x.trouble(), 0);
        x.told(0, 0);
        x.lay();
        c.due("trouble() behind calls that only ask", x.trouble(), 0);
    }

    private static void noSuch(Check c) {
        GreenHours x = House.of(1);
        c.refused("fare(0, 1, 0)", x, x.fare(0, 1, 0), 1);
        x = House.of(1);
        c.refused("green(1, 0, 0, 0)", x, x.green(1, 0, 0, 0), 1);
        x = House.of(1);
        c.refused("job(0, 1, 1, 0, 9, 0)", x, x.job(0, 1, 1, 0, 9, 0), 1);
        x = House.of(1);
        c.refused("drop(0)", x, x.drop(0), 1);
        x = House.of(1);
        c.refused("would(0, 0, 0)", x, x.would(0, 0, 0), 1);
    }

    private static void number(Check c) {
        GreenHours x = House.of(1, 1);
        c.refused("place(0)", x, x.place(0), 2);
        x = House.of(1, 1);
        c.refused("fare(0, 1, 100)", x, x.fare(0, 1, 100), 2);
        x = House.of(1, 1);
        c.refused("green(0, 0, 0, 1000)", x, x.green(0, 0, 0, 1000), 2);
        x = House.of(1, 1);
        c.refused("patience(0)", x, x.patience(0), 2);
        x = House.of(1, 1);
        c.refused("job(6, 0, 1, 0, 9, 0)", x, x.job(6, 0, 1, 0, 9, 0), 2);
        x = House.of(1, 1);
        c.refused("pass(0)", x, x.pass(0), 2);
    }

    private static void noRoom(Check c) {
        GreenHours x = House.of(1, 1, 1, 1);
        c.refused("place(1)", x, x.place(1), 3);
        x = House.of(1);
        for (int i = 0; i < 40; i++) {
            x.job(0, 0, 1, 0, 9, 0);
        }
        c.refused("job(0, 0, 1, 0, 9, 0)", x, x.job(0, 0, 1, 0, 9, 0), 3);
    }

    private static void noHourLeft(Check c) {
        GreenHours x = House.of(1);
        House.passTo(x, 299);
        c.refused("pass(1)", x, x.pass(1), 3);
    }

    private static void notSo(Check c) {
        GreenHours x = House.ofAllStates();
        for (int j = 1; j <= 3; j++) {
            c.refused("drop(" + j + ")", x, x.drop(j), 4);
        }
        x = House.of(1);
        x.job(0, 0, 2, 0, 3, 0);
        x.job(0, 0, 2, 0, 3, 0);
        c.refused("best()", x, x.best(), 4);
    }

    /** A house with TROUBLE 4 and PLACES 0, 1, 2. */
    private static GreenHours troubled(Check c) {
        GreenHours x = House.of(1, 1, 1);
        x.job(0, 0, 1, 0, 9, 0);
        x.job(0, 0, 1, 0, 9, 0);
        x.drop(0);
        c.refused("drop(0)", x, x.drop(0), 4);
        return x;
    }

    private static void fine(Check c) {
        GreenHours x = troubled(c);
        c.granted("place(1)", x, x.place(1), 3);
        x = troubled(c);
        c.granted("fare(0, 1, 0)", x, x.fare(0, 1, 0));
        x = troubled(c);
        c.granted("green(0, 0, 0, 0)", x, x.green(0, 0, 0, 0));
        x = troubled(c);
        c.granted("patience(1)", x, x.patience(1));
        x = troubled(c);
        c.granted("job(0, 0, 1, 0, 9, 0)", x, x.job(0, 0, 1, 0, 9, 0), 2);
        x = troubled(c);
        c.granted("drop(1)", x, x.drop(1));
        x = troubled(c);
        c.granted("best()", x, x.best(), 500);
        x = troubled(c);
        c.granted("pass(1)", x, x.pass(1), 1);
        x = troubled(c);
        c.granted("would(0, 0, 0)", x, x.would(0, 0, 0), 500);
        x = troubled(c);
        c.granted("would(0, 0, 9)", x, x.would(0, 0, 9), -2);
    }

    private static void latest(Check c) {
        GreenHours x = House.of(1);
        c.refused("drop(0)", x, x.drop(0), 1);
        c.refused("patience(501)", x, x.patience(501), 2);
        c.granted("patience(500)", x, x.patience(500));
        c.refused("fare(0, 0, 0)", x, x.fare(0, 0, 0), 1);
        x.place(1);
        x.place(1);
        x.place(1);
        c.refused("place(1)", x, x.place(1), 3);
        c.refused("pass(49)", x, x.pass(49), 2);
    }

    private static void askedAgain(Check c) {
        GreenHours x = House.of(1);
        x.drop(0);
        for (int i = 0; i < 3; i++) {
            c.due("trouble()", x.trouble(), 1);
        }
    }

    private static void left(Check c) {
        GreenHours x = troubled(c);
        x.told(0, 0);
        x.about(1, 0);
        x.lay();
        x.laid(1, 0);
        x.cost();
        x.free(0, 0);
        x.delay(0);
        x.behind(0);
        x.paid();
        x.atOnce();
        x.saved();
        x.regret(0);
        x.worst();
        x.count(0);
        c.due("trouble() behind those that answer", x.trouble(), 4);
        x.told(9, 300);
        x.about(9, 10);
        x.laid(9, 3);
        x.free(9, 300);
        x.delay(6);
        x.behind(6);
        x.regret(9);
        x.count(7);
        c.due("trouble() behind those that answer NONE", x.trouble(), 4);
    }
}
