/** Promise 10: "LAID is made (NOW's; nothing begins): how many JOBS have a LAYING." */
public final class Promise10LayTest {
    public static void main(String[] args) {
        Check c = new Check("Promise 10, lay");
        c.test("none: without PLACES, without JOBS", Promise10LayTest::empty);
        c.test("all JOBS that WAIT, and no others", Promise10LayTest::thoseThatWait);
        c.test("JOBS 40 in the greatest ROOMS", Promise10LayTest::forty);
        c.test("the least COST by what is FORETOLD", Promise10LayTest::cheapest);
        c.test("of as cheap ones the lesser HOUR, then the lesser PLACE", Promise10LayTest::ties);
        c.test("not ahead of the HOUR from which on it may", Promise10LayTest::earliest);
        c.test("its last HOUR is DUE less 1 at the latest", Promise10LayTest::latest);
        c.test("the last HOURS of all", Promise10LayTest::lastHours);
        c.test("NOW's: not in past HOURS", Promise10LayTest::fromNowOn);
        c.test("first by DUE, then by number", Promise10LayTest::order);
        c.test("ROOM beside those laid ahead of it", Promise10LayTest::roomOfLaid);
        c.test("ROOM beside those BEGUN", Promise10LayTest::roomOfBegun);
        c.test("ROOM in each of its HOURS", Promise10LayTest::roomInEachHour);
        c.test("one for which there is none stays unlaid", Promise10LayTest::unlaid);
        c.test("those BEHIND go first", Promise10LayTest::behindFirst);
        c.test("those BEHIND take the least HOUR", Promise10LayTest::behindSoonest);
        c.test("those BEHIND: then the least COST", Promise10LayTest::behindCheapest);
        c.test("those BEHIND: then the lesser PLACE", Promise10LayTest::behindLesserPlace);
        c.test("DELAY no more than PATIENCE is not BEHIND", Promise10LayTest::notBehind);
        c.test("nothing begins", Promise10LayTest::nothingBegins);
        c.test("it leaves TROUBLE", Promise10LayTest::leavesTrouble);
        c.end();
    }

    private static void empty(Check c) {
        GreenHours x = new GreenHours();
        c.due("lay() without PLACES", x.lay(), 0);
        x.place(1);
        c.due("lay() without JOBS", x.lay(), 0);
    }

    private static void thoseThatWait(Check c) {
        GreenHours x = House.ofAllStates();
        c.due("lay()", x.lay(), 1);
        c.laid(x, 0, 0, 20, 500);
        for (int j = 1; j <= 3; j++) {
            c.laid(x, j, -1, -1, -1);
        }
        x.drop(0);
        c.due("lay() when none WAITS", x.lay(), 0);
    }

    private static void forty(Check c) {
        GreenHours x = House.of(9, 9, 9, 9);
        for (int i = 0; i < 40; i++) {
            x.job(i % 6, i % 4, 12, 0, 12, 0);
        }
        c.due("36 in the ROOMS of 12 HOURS", x.lay(), 36);
        c.due("cost()", x.cost(), 36 * 12 * 500);
        c.laid(x, 0, 0, 0, 6000);
        c.laid(x, 35, 3, 0, 6000);
        c.laid(x, 36, -1, -1, -1);
        c.laid(x, 39, -1, -1, -1);
        x = House.of(1);
        for (int i = 0; i < 40; i++) {
            x.job(i % 6, 0, 1, 0, 40, 0);
        }
        c.due("40, an HOUR each", x.lay(), 40);
        c.laid(x, 39, 0, 39, 500);
    }

    private static void cheapest(Check c) {
        GreenHours x = House.of(1, 1);
        x.green(0, 5, 6, 100);
        x.green(1, 8, 9, 90);
        x.job(0, 0, 2, 0, 20, 10);
        c.due("lay()", x.lay(), 1);
        c.laid(x, 0, 1, 8, 190);
        x.fare(0, 1, 3);
        x.lay();
        c.laid(x, 0, 0, 5, 200);
        x.green(0, 6, 6, 900);
        x.lay();
        c.laid(x, 0, 1, 8, 210);
    }

    private static void ties(Check c) {
        GreenHours x = House.of(1, 1, 1);
        x.green(0, 7, 7, 10);
        x.green(1, 6, 6, 10);
        x.green(2, 6, 6, 10);
        x.job(0, 0, 1, 0, 20, 0);
        x.lay();
        c.laid(x, 0, 1, 6, 10);
        x.green(1, 6, 6, 11);
        x.lay();
        c.laid(x, 0, 2, 6, 10);
        x.green(2, 6, 6, 11);
        x.lay();
        c.laid(x, 0, 0, 7, 10);
    }

    private static void earliest(Check c) {
        GreenHours x = House.of(1);
        x.green(0, 4, 5, 0);
        x.job(0, 0, 2, 5, 12, 0);
        x.lay();
        c.laid(x, 0, 0, 5, 500);
        x.job(0, 0, 2, 4, 6, 0);
        x.drop(0);
        x.lay();
        c.laid(x, 1, 0, 4, 0);
    }

    private static void latest(Check c) {
        GreenHours x = House.of(9);
        x.green(0, 10, 11, 0);
        x.job(0, 0, 2, 3, 11, 0);
        x.job(0, 0, 2, 3, 12, 0);
        x.lay();
        c.laid(x, 0, 0, 9, 500);
        c.laid(x, 1, 0, 10, 0);
    }

    private static void lastHours(Check c) {
        GreenHours x = House.of(9);
        x.patience(500);
        x.green(0, 299, 299, 0);
        x.job(0, 0, 1, 0, 300, 0);
        x.job(0, 0, 1, 299, 300, 0);
        x.job(0, 0, 12, 288, 300, 0);
        x.job(0, 0, 12, 0, 300, 0);
        c.due("lay()", x.lay(), 4);
        c.laid(x, 0, 0, 299, 0);
        c.laid(x, 1, 0, 299, 0);
        c.laid(x, 2, 0, 288, 5500);
        c.laid(x, 3, 0, 288, 5500);
        House.passTo(x, 299);
        x.job(0, 0, 1, 299, 300, 0);
        c.due("lay() when NOW is 299", x.lay(), 3);
        c.laid(x, 4, 0, 299, 0);
    }

    private static void fromNowOn(Check c) {
        GreenHours x = House.of(1);
        x.green(0, 0, 2, 400);
        x.green(0, 10, 10, 100);
        x.job(0, 0, 1, 0, 20, 0);
        x.pass(3);
        x.green(0, 10, 10, 500);
        c.due("lay()", x.lay(), 1);
        c.laid(x, 0, 0, 3, 500);
    }

    private static void order(Check c) {
        GreenHours x = House.of(1);
        x.green(0, 4, 4, 1);
        x.green(0, 5, 5, 2);
        x.green(0, 6, 6, 3);
        x.job(0, 0, 1, 0, 12, 0);
        x.job(0, 0, 1, 0, 11, 0);
        x.job(0, 0, 1, 0, 12, 0);
        x.job(0, 0, 1, 0, 10, 0);
        c.due("lay()", x.lay(), 4);
        c.laid(x, 3, 0, 4, 1);
        c.laid(x, 1, 0, 5, 2);
        c.laid(x, 0, 0, 6, 3);
        c.laid(x, 2, 0, 0, 500);
    }

    private static void roomOfLaid(Check c) {
        GreenHours x = House.of(2);
        x.green(0, 4, 4, 1);
        for (int i = 0; i < 3; i++) {
            x.job(0, 0, 1, 0, 9, 0);
        }
        c.due("lay()", x.lay(), 3);
        c.laid(x, 0, 0, 4, 1);
        c.laid(x, 1, 0, 4, 1);
        c.laid(x, 2, 0, 0, 500);
    }

    private static void roomOfBegun(Check c) {
        GreenHours x = House.of(1);
        x.green(0, 0, 3, 0);
        x.job(0, 0, 4, 0, 4, 0);
        x.pass(1);
        x.job(0, 0, 2, 1, 5, 0);
        c.due("lay() beside one BEGUN", x.lay(), 0);
        x.job(0, 0, 2, 1, 6, 0);
        c.due("lay() behind one BEGUN", x.lay(), 1);
        c.laid(x, 2, 0, 4, 1000);
    }

    /** JOB 0 holds HOUR 5: neither its first nor its last nor one amid them may be that. */
    private static void roomInEachHour(Check c) {
        GreenHours x = House.of(1);
        x.job(0, 0, 1, 5, 6, 0);
        x.job(0, 0, 3, 3, 8, 0);
        x.job(0, 0, 3, 3, 9, 0);
        x.job(0, 0, 3, 2, 9, 0);
        c.due("lay()", x.lay(), 3);
        c.laid(x, 1, -1, -1, -1);
        c.laid(x, 2, 0, 6, 1500);
        c.laid(x, 3, 0, 2, 1500);
    }

    private static void unlaid(Check c) {
        GreenHours x = House.of(2);
        x.job(0, 0, 3, 0, 4, 0);
        x.job(1, 0, 3, 0, 4, 0);
        x.job(2, 0, 2, 0, 4, 0);
        x.job(3, 0, 1, 0, 4, 0);
        c.due("lay()", x.lay(), 3);
        c.laid(x, 0, 0, 0, 1500);
        c.laid(x, 1, 0, 0, 1500);
        c.laid(x, 2, -1, -1, -1);
        c.laid(x, 3, 0, 3, 500);
        c.due("it WAITS still", x.about(2, 0), 0);
        x.place(1);
        c.due("lay() with another PLACE", x.lay(), 4);
        c.laid(x, 2, 1, 0, 1000);
        c.laid(x, 3, 1, 2, 500);
    }

    private static void behindFirst(Check c) {
        GreenHours x = House.delayed(2, 3, 1);
        x.patience(2);
        x.job(0, 0, 1, 4, 6, 0);
        x.job(2, 0, 1, 4, 300, 0);
        x.job(2, 0, 1, 4, 299, 0);
        x.job(2, 0, 1, 4, 299, 0);
        c.due("lay()", x.lay(), 3);
        c.laid(x, 3, 0, 4, 500);
        c.laid(x, 4, 0, 5, 500);
        c.laid(x, 2, 0, 6, 500);
        c.laid(x, 1, -1, -1, -1);
    }

    private static void behindSoonest(Check c) {
        GreenHours x = House.delayed(2, 3, 1, 1);
        x.patience(2);
        x.green(0, 6, 6, 999);
        x.green(1, 6, 6, 998);
        x.green(0, 7, 7, 0);
        x.job(2, 0, 1, 6, 30, 0);
        x.lay();
        c.laid(x, 1, 1, 6, 998);
    }

    private static void behindCheapest(Check c) {
        GreenHours x = House.delayed(2, 3, 1, 1);
        x.patience(2);
        x.green(0, 6, 7, 302);
        x.green(1, 6, 7, 300);
        x.job(2, 0, 2, 6, 30, 3);
        x.lay();
        c.laid(x, 1, 1, 6, 603);
        x.fare(0, 1, 2);
        x.lay();
        c.laid(x, 1, 0, 6, 604);
    }

    private static void behindLesserPlace(Check c) {
        GreenHours x = House.delayed(2, 3, 1, 1);
        x.patience(2);
        x.green(0, 6, 7, 300);
        x.green(1, 6, 7, 302);
        x.job(2, 1, 2, 6, 30, 4);
        x.lay();
        c.laid(x, 1, 0, 6, 604);
    }

    private static void notBehind(Check c) {
        GreenHours x = House.delayed(2, 3, 1);
        x.patience(3);
        x.green(0, 9, 9, 0);
        x.job(2, 0, 1, 4, 30, 0);
        x.lay();
        c.laid(x, 1, 0, 9, 0);
        x.patience(2);
        x.lay();
        c.laid(x, 1, 0, 4, 500);
        x = House.delayed(2, 3, 1);
        x.patience(2);
        x.green(0, 9, 9, 0);
        x.job(3, 0, 1, 4, 30, 0);
        x.lay();
        c.laid(x, 1, 0, 9, 0);
    }

    private static void nothingBegins(Check c) {
        GreenHours x = House.of(1);
        x.job(0, 0, 1, 0, 1, 0);
        c.due("lay()", x.lay(), 1);
        String before = House.look(x);
        c.due("lay() again", x.lay(), 1);
        c.same("the house", House.look(x), before);
        c.due("about(0, 0)", x.about(0, 0), 0);
        c.due("free(0, 0)", x.free(0, 0), 1);
        c.due("count(6)", x.count(6), 0);
    }

    private static void leavesTrouble(Check c) {
        GreenHours x = House.of(1);
        c.refused("place(0)", x, x.place(0), 2);
        x.lay();
        c.due("trouble()", x.trouble(), 2);
    }
}
