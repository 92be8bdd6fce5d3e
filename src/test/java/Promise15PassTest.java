/**
 * Promise 15: "So many HOURS go (1 .. 48): how many JOBS were DONE in them. NONE: 2; 3 (NOW would be
 * beyond 299)."
 */
public final class Promise15PassTest {
    public static void main(String[] args) {
        Check c = new Check("Promise 15, pass");
        c.test("1 .. 48: the least and the greatest", Promise15PassTest::edges);
        c.test("1 .. 48: too small", Promise15PassTest::tooSmall);
        c.test("1 .. 48: too large", Promise15PassTest::tooLarge);
        c.test("NOW up to 299", Promise15PassTest::upToLast);
        c.test("3: NOW would be beyond 299", Promise15PassTest::beyondLast);
        c.test("2 stands ahead of 3", Promise15PassTest::codesInOrder);
        c.test("a refused one changes nothing", Promise15PassTest::refusedLeaves);
        c.test("how many were DONE in them", Promise15PassTest::howMany);
        c.test("an HOUR and an HOUR are two HOURS", Promise15PassTest::oneByOne);
        c.test("LAID is made anew with each HOUR", Promise15PassTest::laidAnew);
        c.test("those laid to begin NOW are BEGUN, later ones WAIT", Promise15PassTest::begins);
        c.test("what has begun stays", Promise15PassTest::begunStays);
        c.test("LOST: those that couldn't end, begun in the next HOUR", Promise15PassTest::lost);
        c.test("LOST: one that is BEGUN with its last chance isn't", Promise15PassTest::lastChance);
        c.test("LOST: one crowded out", Promise15PassTest::crowdedOut);
        c.test("PAID: GREEN of the HOUR, DATA with the first", Promise15PassTest::pays);
        c.test("DONE with its last HOUR, not ahead of it", Promise15PassTest::done);
        c.test("ROOM of one DONE is free in the next HOUR", Promise15PassTest::roomAgain);
        c.test("those BEHIND go first", Promise15PassTest::behindFirst);
        c.test("BEHIND is asked anew with each HOUR", Promise15PassTest::behindAnew);
        c.end();
    }

    private static void edges(Check c) {
        GreenHours x = House.of(1);
        c.granted("pass(1)", x, x.pass(1), 0);
        c.due("count(6)", x.count(6), 1);
        c.granted("pass(48)", x, x.pass(48), 0);
        c.due("count(6)", x.count(6), 49);
    }

    private static void tooSmall(Check c) {
        GreenHours x = House.of(1);
        for (int n : new int[] {0, -1, Check.LEAST}) {
            c.refused("pass(" + n + ")", x, x.pass(n), 2);
        }
        c.due("count(6)", x.count(6), 0);
    }

    private static void tooLarge(Check c) {
        GreenHours x = House.of(1);
        for (int n : new int[] {49, 50, 299, 300, Check.MOST}) {
            c.refused("pass(" + n + ")", x, x.pass(n), 2);
        }
        c.due("count(6)", x.count(6), 0);
    }

    private static void upToLast(Check c) {
        GreenHours x = House.of(1);
        House.passTo(x, 251);
        c.granted("pass(48) when NOW is 251", x, x.pass(48), 0);
        c.due("count(6)", x.count(6), 299);
        x = House.of(1);
        House.passTo(x, 298);
        c.granted("pass(1) when NOW is 298", x, x.pass(1), 0);
        c.due("count(6)", x.count(6), 299);
    }

    private static void beyondLast(Check c) {
        GreenHours x = House.of(1);
        House.passTo(x, 252);
        c.refused("pass(48) when NOW is 252", x, x.pass(48), 3);
        c.due("count(6)", x.count(6), 252);
        House.passTo(x, 299);
        for (int n : new int[] {1, 2, 48}) {
            c.refused("pass(" + n + ") when NOW is 299", x, x.pass(n), 3);
        }
        c.due("count(6)", x.count(6), 299);
    }

    private static void codesInOrder(Check c) {
        GreenHours x = House.of(1);
        House.passTo(x, 299);
        for (int n : new int[] {Check.LEAST, -1, 0, 49, Check.MOST}) {
            c.refused("pass(" + n + ") when NOW is 299", x, x.pass(n), 2);
        }
    }

    private static void refusedLeaves(Check c) {
        GreenHours x = House.ofAllStates();
        String before = House.look(x);
        x.pass(0);
        x.pass(49);
        c.same("the house", House.look(x), before);
        House.passTo(x, 299);
        x.job(0, 0, 1, 299, 300, 0);
        before = House.look(x);
        x.pass(1);
        c.same("the house when NOW is 299", House.look(x), before);
        c.due("the last JOB WAITS", x.about(4, 0), 0);
    }

    private static void howMany(Check c) {
        GreenHours x = House.of(3);
        x.job(0, 0, 1, 0, 9, 0);
        x.job(0, 0, 2, 0, 9, 0);
        x.job(0, 0, 3, 1, 9, 0);
        x.job(0, 0, 1, 0, 9, 0);
        x.drop(3);
        c.due("pass(1)", x.pass(1), 1);
        c.due("pass(3)", x.pass(3), 2);
        c.due("pass(9) of none", x.pass(9), 0);
        x = House.of(9, 9, 9, 9);
        for (int i = 0; i < 40; i++) {
            x.job(0, 0, 12, 0, 24, 0);
        }
        c.due("pass(48) of forty", x.pass(48), 40);
    }

    private static void oneByOne(Check c) {
        GreenHours x = House.of(1, 1);
        GreenHours y = House.of(1, 1);
        for (GreenHours z : new GreenHours[] {x, y}) {
            z.green(1, 4, 6, 30);
            z.patience(2);
            z.job(0, 0, 3, 0, 9, 5);
            z.job(0, 1, 2, 1, 9, 5);
            z.job(1, 1, 2, 1, 4, 5);
            z.job(1, 0, 1, 1, 4, 5);
        }
        int done = 0;
        for (int i = 0; i < 12; i++) {
            done += x.pass(1);
        }
        c.due("pass(12)", y.pass(12), done);
        c.same("the house", House.look(y), House.look(x));
    }

    private static void laidAnew(Check c) {
        GreenHours x = House.of(1, 1);
        x.green(0, 5, 5, 10);
        x.job(0, 0, 1, 0, 20, 0);
        x.lay();
        c.due("laid for 5", x.laid(0, 1), 5);
        x.pass(3);
        x.green(1, 4, 4, 2);
        x.pass(2);
        c.due("begun where it became cheaper", x.about(0, 1), 1);
        c.due("and when", x.about(0, 2), 4);
    }

    private static void begins(Check c) {
        GreenHours x = House.of(2);
        x.green(0, 1, 1, 10);
        x.job(0, 0, 1, 0, 1, 0);
        x.job(0, 0, 2, 0, 9, 0);
        x.pass(1);
        c.due("laid for 0", x.about(0, 2), 0);
        c.due("as cheap from 0 on as from 1 on", x.about(1, 2), 0);
        x = House.of(2);
        x.green(0, 1, 2, 10);
        x.job(0, 0, 2, 0, 9, 0);
        x.pass(1);
        c.due("laid for 1: WAITS", x.about(0, 0), 0);
        x.pass(1);
        c.due("laid for 1: BEGUN", x.about(0, 0), 1);
        c.due("laid for 1: its HOUR", x.about(0, 2), 1);
    }

    private static void begunStays(Check c) {
        GreenHours x = House.of(1, 1);
        x.job(0, 0, 3, 0, 20, 0);
        x.pass(1);
        x.green(0, 1, 19, 900);
        x.green(1, 1, 19, 0);
        x.pass(2);
        c.due("its PLACE", x.about(0, 1), 0);
        c.due("PAID there", x.about(0, 3), 500 + 900 + 900);
        c.due("DONE", x.about(0, 0), 2);
    }

    private static void lost(Check c) {
        GreenHours x = House.of(1);
        x.job(0, 0, 4, 0, 4, 0);
        x.job(0, 0, 2, 0, 4, 0);
        x.job(0, 0, 2, 0, 5, 0);
        x.pass(2);
        c.due("begun in 2 it would end by 4", x.about(1, 0), 0);
        x.pass(1);
        c.due("begun in 3 it wouldn't", x.about(1, 0), 3);
        c.due("one with an HOUR more", x.about(2, 0), 0);
        x.pass(1);
        c.due("that one, too", x.about(2, 0), 3);
        c.due("count(5)", x.count(5), 2);
    }

    private static void lastChance(Check c) {
        GreenHours x = House.of(1);
        x.green(0, 3, 4, 0);
        x.job(0, 0, 2, 0, 5, 0);
        x.pass(3);
        c.due("it WAITS for its last chance", x.about(0, 0), 0);
        x.pass(1);
        c.due("it is BEGUN with it", x.about(0, 0), 1);
        c.due("and DONE", x.pass(1), 1);
        x = House.of(1);
        x.job(0, 0, 12, 0, 12, 0);
        x.pass(1);
        c.due("one DUE just behind its LENGTH", x.about(0, 0), 1);
    }

    private static void crowdedOut(Check c) {
        GreenHours x = House.of(1);
        x.job(0, 0, 2, 0, 3, 0);
        x.job(0, 0, 2, 0, 2, 0);
        x.pass(1);
        c.due("JOB 1, DUE ahead, is BEGUN", x.about(1, 0), 1);
        c.due("JOB 0 might still begin in the next HOUR", x.about(0, 0), 0);
        x.pass(1);
        c.due("JOB 0 is LOST", x.about(0, 0), 3);
        c.due("about(0, 2)", x.about(0, 2), -1);
    }

    private static void pays(Check c) {
        GreenHours x = House.of(1, 1);
        x.green(1, 0, 0, 10);
        x.green(1, 1, 1, 20);
        x.fare(0, 1, 4);
        x.job(0, 0, 2, 0, 2, 6);
        x.pass(1);
        c.due("the first HOUR", x.about(0, 3), 10 + 24);
        x.pass(1);
        c.due("the second", x.about(0, 3), 10 + 24 + 20);
        x.pass(1);
        c.due("no more", x.about(0, 3), 54);
    }

    private static void done(Check c) {
        GreenHours x = House.of(1);
        x.job(0, 0, 12, 0, 12, 0);
        c.due("pass(11)", x.pass(11), 0);
        c.due("BEGUN", x.about(0, 0), 1);
        c.due("pass(1)", x.pass(1), 1);
        c.due("DONE", x.about(0, 0), 2);
        c.due("pass(1) again", x.pass(1), 0);
    }

    private static void roomAgain(Check c) {
        GreenHours x = House.of(1);
        x.job(0, 0, 2, 0, 2, 0);
        x.job(0, 0, 2, 0, 4, 0);
        c.due("pass(4)", x.pass(4), 2);
        c.due("about(1, 2)", x.about(1, 2), 2);
    }

    private static void behindFirst(Check c) {
        GreenHours x = House.delayed(4, 2, 1);
        x.patience(1);
        x.green(0, 20, 20, 0);
        x.job(0, 0, 1, 3, 4, 0);
        x.job(4, 0, 1, 3, 40, 0);
        c.due("pass(1)", x.pass(1), 1);
        c.due("the one BEHIND, at once", x.about(2, 2), 3);
        c.due("the other is LOST", x.about(1, 0), 3);
    }

    private static void behindAnew(Check c) {
        GreenHours x = House.of(1);
        x.patience(1);
        x.green(0, 0, 1, 900);
        x.green(0, 2, 2, 0);
        x.green(0, 9, 9, 1);
        x.job(4, 0, 1, 0, 3, 0);
        x.job(4, 0, 1, 0, 10, 0);
        c.due("pass(10)", x.pass(10), 2);
        c.due("the first waits", x.about(0, 2), 2);
        c.due("the second no more", x.about(1, 2), 3);
    }
}
