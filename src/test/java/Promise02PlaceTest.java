/** Promise 2: "A PLACE with ROOM: its number. NONE: 2; 3." */
public final class Promise02PlaceTest {
    public static void main(String[] args) {
        Check c = new Check("Promise 2, place");
        c.test("its number", Promise02PlaceTest::numbers);
        c.test("ROOM 1 .. 9: the least and the greatest", Promise02PlaceTest::edges);
        c.test("ROOM 1 .. 9: too small", Promise02PlaceTest::tooSmall);
        c.test("ROOM 1 .. 9: too large", Promise02PlaceTest::tooLarge);
        c.test("PLACES 4: full", Promise02PlaceTest::full);
        c.test("2 stands ahead of 3", Promise02PlaceTest::fullAndWrong);
        c.test("a refused one makes none", Promise02PlaceTest::refusedMakesNone);
        c.test("so many JOBS in an HOUR, and no more", Promise02PlaceTest::roomHolds);
        c.test("GREEN is 500 until told", Promise02PlaceTest::greenUntilTold);
        c.test("a PLACE made when HOURS are past", Promise02PlaceTest::late);
        c.end();
    }

    private static void numbers(Check c) {
        GreenHours x = new GreenHours();
        for (int i = 0; i < 4; i++) {
            c.granted("place(3)", x, x.place(3), i);
            c.due("count(0)", x.count(0), i + 1);
        }
    }

    private static void edges(Check c) {
        GreenHours x = new GreenHours();
        c.granted("place(1)", x, x.place(1), 0);
        c.granted("place(9)", x, x.place(9), 1);
        c.due("free(0, 0)", x.free(0, 0), 1);
        c.due("free(1, 0)", x.free(1, 0), 9);
    }

    private static void tooSmall(Check c) {
        GreenHours x = new GreenHours();
        for (int room : new int[] {0, -1, Check.LEAST}) {
            c.refused("place(" + room + ")", x, x.place(room), 2);
        }
    }

    private static void tooLarge(Check c) {
        GreenHours x = new GreenHours();
        for (int room : new int[] {10, 11, Check.MOST}) {
            c.refused("place(" + room + ")", x, x.place(room), 2);
        }
    }

    private static void full(Check c) {
        GreenHours x = House.of(1, 1, 1, 1);
        c.due("count(0)", x.count(0), 4);
        String before = House.look(x);
        c.refused("a fifth place(1)", x, x.place(1), 3);
        c.refused("a fifth place(9)", x, x.place(9), 3);
        c.same("the house", House.look(x), before);
    }

    private static void fullAndWrong(Check c) {
        GreenHours x = House.of(1, 1, 1, 1);
        c.refused("a fifth place(0)", x, x.place(0), 2);
        c.refused("a fifth place(10)", x, x.place(10), 2);
    }

    private static void refusedMakesNone(Check c) {
        GreenHours x = House.of(2);
        String before = House.look(x);
        x.place(0);
        x.place(10);
        c.same("the house", House.look(x), before);
        c.granted("place(2), the next number", x, x.place(2), 1);
    }

    private static void roomHolds(Check c) {
        for (int room = 1; room <= 9; room++) {
            GreenHours x = House.of(room);
            for (int i = 0; i <= room; i++) {
                x.job(0, 0, 1, 0, 1, 0);
            }
            c.due("lay() of one more than ROOM " + room, x.lay(), room);
            c.due("pass(1) with ROOM " + room, x.pass(1), room);
        }
    }

    private static void greenUntilTold(Check c) {
        GreenHours x = House.of(1);
        for (int h = 0; h <= 299; h++) {
            c.due("told(0, " + h + ")", x.told(0, h), 500);
        }
    }

    private static void late(Check c) {
        GreenHours x = House.of(1);
        x.green(0, 0, 299, 7);
        x.pass(5);
        c.granted("place(6)", x, x.place(6), 1);
        c.due("told(1, 0), past", x.told(1, 0), 500);
        c.due("told(1, 5), NOW", x.told(1, 5), 500);
        c.due("told(0, 5) of the other", x.told(0, 5), 7);
        c.due("free(1, 5)", x.free(1, 5), 6);
        c.due("free(1, 299)", x.free(1, 299), 6);
    }
}
