/** Promises 10 to 14: lay, laid, cost, best, free. */
public final class LayingTest {
    private static final int LEAST = Integer.MIN_VALUE;
    private static final int MOST = Integer.MAX_VALUE;

    public static void main(String[] args) {
        Check c = new Check();
        cheapest(c);
        ties(c);
        edgesOfTime(c);
        order(c);
        rooms(c);
        roomOfBegun(c);
        behindFirst(c);
        behindSoonest(c);
        nothingBegins(c);
        latestLay(c);
        laidOfNone(c);
        bests(c);
        bestsRefused(c);
        bestsApart(c);
        bestsWithRoom(c);
        bestsOfLongJobs(c);
        frees(c);
        c.end("LayingTest");
    }

    private static void laid(Check c, GreenHours x, int job, int place, int hour, int cost) {
        c.due("laid(" + job + ", 0)", x.laid(job, 0), place);
        c.due("laid(" + job + ", 1)", x.laid(job, 1), hour);
        c.due("laid(" + job + ", 2)", x.laid(job, 2), cost);
    }

    private static void cheapest(Check c) {
        GreenHours x = new GreenHours();
        x.place(1);
        x.place(1);
        x.green(0, 5, 6, 100);
        x.green(1, 8, 9, 90);
        x.job(0, 0, 2, 0, 20, 10);
        c.due("lay()", x.lay(), 1);
        laid(c, x, 0, 1, 8, 190);
        x.fare(0, 1, 3);
        x.lay();
        laid(c, x, 0, 0, 5, 200);
        x.green(0, 6, 6, 900);
        x.lay();
        laid(c, x, 0, 1, 8, 210);
    }

    private static void ties(Check c) {
        GreenHours x = new GreenHours();
        x.place(1);
        x.place(1);
        x.place(1);
        x.green(0, 7, 7, 10);
        x.green(1, 6, 6, 10);
        x.green(2, 6, 6, 10);
        x.job(0, 0, 1, 0, 20, 0);
        x.lay();
        laid(c, x, 0, 1, 6, 10);
    }

    private static void edgesOfTime(Check c) {
        GreenHours x = new GreenHours();
        x.place(9);
        x.green(0, 2, 2, 0);
        x.green(0, 10, 11, 0);
        x.job(0, 0, 2, 3, 11, 0);
        x.job(0, 0, 2, 3, 12, 0);
        x.job(0, 0, 2, 2, 12, 0);
        x.job(0, 0, 1, 299, 300, 0);
        x.job(0, 0, 12, 288, 300, 0);
        c.due("lay()", x.lay(), 5);
        laid(c, x, 0, 0, 9, 500);
        laid(c, x, 1, 0, 10, 0);
        laid(c, x, 2, 0, 10, 0);
        laid(c, x, 3, 0, 299, 500);
        laid(c, x, 4, 0, 288, 6000);
        x.green(0, 0, 0, 0);
        x.green(0, 1, 1, 0);
        x.job(0, 0, 1, 0, 9, 0);
        x.drop(5);
        x.job(0, 0, 2, 0, 9, 0);
        x.lay();
        laid(c, x, 6, 0, 0, 0);
    }

    /** By DUE, then by number. */
    private static void order(Check c) {
        GreenHours x = new GreenHours();
        x.place(1);
        x.green(0, 4, 4, 1);
        x.green(0, 5, 5, 2);
        x.green(0, 6, 6, 3);
        x.job(0, 0, 1, 0, 12, 0);
        x.job(0, 0, 1, 0, 11, 0);
        x.job(0, 0, 1, 0, 12, 0);
        x.job(0, 0, 1, 0, 10, 0);
        c.due("lay()", x.lay(), 4);
        laid(c, x, 3, 0, 4, 1);
        laid(c, x, 1, 0, 5, 2);
        laid(c, x, 0, 0, 6, 3);
        laid(c, x, 2, 0, 0, 500);
        c.due("cost()", x.cost(), 506);
    }

    private static void rooms(Check c) {
        GreenHours x = new GreenHours();
        x.place(2);
        x.job(0, 0, 3, 0, 4, 0);
        x.job(1, 0, 3, 0, 4, 0);
        x.job(2, 0, 2, 0, 4, 0);
        x.job(3, 0, 1, 0, 4, 0);
        c.due("lay()", x.lay(), 3);
        laid(c, x, 0, 0, 0, 1500);
        laid(c, x, 1, 0, 0, 1500);
        laid(c, x, 2, -1, -1, -1);
        laid(c, x, 3, 0, 3, 500);
        c.due("cost()", x.cost(), 3500);
        x.place(1);
        c.due("lay() with another PLACE", x.lay(), 4);
        laid(c, x, 2, 1, 0, 1000);
        laid(c, x, 3, 1, 2, 500);
    }

    private static void roomOfBegun(Check c) {
        GreenHours x = new GreenHours();
        x.place(1);
        x.green(0, 0, 3, 0);
        x.job(0, 0, 4, 0, 4, 0);
        x.pass(1);
        x.job(0, 0, 2, 1, 5, 0);
        c.due("no ROOM beside one BEGUN", x.lay(), 0);
        x.job(0, 0, 2, 1, 6, 0);
        c.due("ROOM behind one BEGUN", x.lay(), 1);
        laid(c, x, 2, 0, 4, 1000);
    }

    /** An OWNER whose DELAY is 3 hours; NOW is 4 then. */
    private static GreenHours delayed(int owner, int patience) {
        GreenHours x = new GreenHours();
        x.place(1);
        x.place(1);
        x.green(0, 0, 2, 900);
        x.green(1, 0, 2, 900);
        x.job(owner, 0, 1, 0, 4, 0);
        x.pass(4);
        x.patience(patience);
        return x;
    }

    private static void behindFirst(Check c) {
        GreenHours x = delayed(2, 2);
        c.due("delay(2)", x.delay(2), 3);
        x.green(0, 4, 20, 600);
        x.job(0, 1, 1, 4, 6, 0);
        x.job(2, 1, 1, 4, 9, 0);
        x.job(2, 1, 1, 4, 8, 0);
        c.due("lay()", x.lay(), 3);
        laid(c, x, 3, 1, 4, 500);
        laid(c, x, 2, 0, 4, 600);
        laid(c, x, 1, 1, 5, 500);
        x.patience(3);
        x.lay();
        laid(c, x, 1, 1, 4, 500);
        laid(c, x, 3, 1, 5, 500);
        laid(c, x, 2, 1, 6, 500);
    }

    private static GreenHours withData(GreenHours x) {
        x.job(2, 1, 2, 6, 30, 4);
        x.green(0, 6, 7, 300);
        x.green(1, 6, 7, 302);
        x.green(1, 20, 21, 0);
        return x;
    }

    private static void behindSoonest(Check c) {
        GreenHours x = withData(delayed(2, 2));
        x.lay();
        // As cheap in both PLACES, the DATA counted: the lesser one.
        laid(c, x, 1, 0, 6, 604);
        x.green(1, 6, 6, 301);
        x.lay();
        laid(c, x, 1, 1, 6, 603);
        x.fare(0, 1, 0);
        x.lay();
        laid(c, x, 1, 0, 6, 600);
        x.green(1, 6, 7, 300);
        x.lay();
        laid(c, x, 1, 0, 6, 600);
        x = withData(delayed(2, 3));
        x.lay();
        laid(c, x, 1, 1, 20, 0);
        x = withData(delayed(3, 2));
        x.lay();
        laid(c, x, 1, 1, 20, 0);
    }

    private static void nothingBegins(Check c) {
        GreenHours x = new GreenHours();
        x.place(1);
        x.job(0, 0, 1, 0, 1, 0);
        c.due("lay()", x.lay(), 1);
        c.due("lay() again", x.lay(), 1);
        c.due("it WAITS", x.about(0, 0), 0);
        c.due("free(0, 0)", x.free(0, 0), 1);
        c.due("NOW", x.count(6), 0);
        c.refused("place, for its trouble", x, x.place(0), 2);
        x.lay();
        x.laid(0, 0);
        x.laid(9, 9);
        x.cost();
        c.due("trouble() is not lay's, laid's or cost's", x.trouble(), 2);
    }

    private static void latestLay(Check c) {
        GreenHours x = new GreenHours();
        x.place(2);
        x.green(0, 3, 3, 40);
        x.job(0, 0, 1, 0, 9, 0);
        x.job(0, 0, 1, 0, 1, 0);
        c.due("cost() ahead of any lay()", x.cost(), -1);
        c.due("laid() ahead of any lay()", x.laid(0, 0), -1);
        x.pass(1);
        c.due("cost(): what an HOUR lays is none", x.cost(), -1);
        c.due("laid(): what an HOUR lays is none", x.laid(0, 1), -1);
        x.lay();
        laid(c, x, 0, 0, 3, 40);
        c.due("one DONE has none", x.laid(1, 0), -1);
        x.green(0, 2, 2, 10);
        x.job(0, 0, 1, 1, 9, 0);
        laid(c, x, 0, 0, 3, 40);
        laid(c, x, 2, -1, -1, -1);
        x.pass(2);
        c.due("both began elsewhere", x.about(0, 2), 2);
        laid(c, x, 0, 0, 3, 40);
        c.due("cost() of the latest lay()", x.cost(), 40);
        c.due("lay() of none", x.lay(), 0);
        laid(c, x, 0, -1, -1, -1);
        c.due("cost() of none", x.cost(), 0);
    }

    private static void laidOfNone(Check c) {
        GreenHours x = new GreenHours();
        x.place(1);
        x.job(0, 0, 1, 0, 9, 0);
        x.lay();
        int[] noJob = {LEAST, -1, 1, 39, 40, MOST};
        for (int j : noJob) {
            c.due("laid(" + j + ", 0)", x.laid(j, 0), -1);
        }
        int[] noWhat = {LEAST, -1, 3, MOST};
        for (int w : noWhat) {
            c.due("laid(0, " + w + ")", x.laid(0, w), -1);
        }
    }

    private static void bests(Check c) {
        GreenHours x = new GreenHours();
        c.granted("best() without any", x, x.best(), 0);
        x.place(1);
        x.green(0, 0, 0, 5);
        x.green(0, 1, 1, 4);
        x.green(0, 2, 2, 9);
        x.job(0, 0, 1, 0, 2, 0);
        c.granted("best() of one", x, x.best(), 4);
        x.job(0, 0, 2, 0, 3, 0);
        c.due("lay() lays one", x.lay(), 1);
        c.granted("best() lays both", x, x.best(), 18);
        x.job(0, 0, 1, 0, 9, 0);
        c.granted("best() of three", x, x.best(), 518);
        c.due("the latest lay() stays", x.laid(1, 0), -1);
        c.due("free(0, 1) stays", x.free(0, 1), 1);
        x.place(1);
        x.fare(0, 1, 60);
        x.green(1, 0, 0, 100);
        // JOB 0 from 0 on, JOB 1 from 1 on, JOB 2 at the other PLACE.
        c.granted("best() with another PLACE", x, x.best(), 5 + 13 + 100);
        x.pass(1);
        c.granted("best() of the one that still WAITS", x, x.best(), 4);
    }

    private static void bestsRefused(Check c) {
        GreenHours x = new GreenHours();
        x.place(1);
        x.job(0, 0, 3, 0, 5, 0);
        x.job(0, 0, 3, 0, 5, 0);
        c.refused("best() of two that can't", x, x.best(), 4);
        x.drop(1);
        c.granted("best() of the one", x, x.best(), 1500);
        x.job(0, 0, 1, 0, 99, 0);
        x.job(0, 0, 1, 0, 99, 0);
        c.granted("best() of three", x, x.best(), 2500);
        x.job(0, 0, 1, 0, 99, 0);
        c.refused("best() of four", x, x.best(), 4);
        x.pass(1);
        c.granted("best() of the three that WAIT beside one BEGUN", x, x.best(), 1500);
        x.job(0, 0, 2, 1, 4, 0);
        x.drop(2);
        c.refused("best() beside one BEGUN", x, x.best(), 4);
    }

    /** OWNERS are of no matter: one BEHIND does not take the least HOUR. */
    private static void bestsApart(Check c) {
        GreenHours x = delayed(2, 2);
        x.job(2, 0, 1, 4, 30, 0);
        x.green(0, 25, 25, 3);
        c.granted("best() of one BEHIND", x, x.best(), 3);
        x.lay();
        c.due("cost() of one BEHIND", x.cost(), 500);
    }

    private static void bestsWithRoom(Check c) {
        GreenHours x = new GreenHours();
        x.place(2);
        x.green(0, 10, 11, 1);
        x.job(0, 0, 2, 0, 20, 0);
        x.job(0, 0, 2, 0, 20, 0);
        c.granted("best() of two in a ROOM of 2", x, x.best(), 4);
        x.job(0, 0, 2, 0, 20, 0);
        c.granted("best() of three in a ROOM of 2", x, x.best(), 1004);
        x.place(1);
        x.green(1, 40, 41, 0);
        c.granted("best() within DUE alone", x, x.best(), 1004);
        x.green(1, 17, 19, 7);
        c.granted("best() with one elsewhere", x, x.best(), 18);
    }

    /** Each stands in the way of as many of the others' cheapest LAYINGS as can be. */
    private static void bestsOfLongJobs(Check c) {
        GreenHours x = new GreenHours();
        x.place(1);
        x.green(0, 100, 146, 10);
        for (int i = 0; i < 3; i++) {
            x.job(i, 0, 12, 0, 300, 0);
        }
        c.granted("best() of three long ones", x, x.best(), 360);
        x.green(0, 111, 111, 600);
        x.green(0, 135, 135, 600);
        // From 99 on, from 112 on and from 136 on.
        c.granted("best() around two dear HOURS", x, x.best(), 610 + 120 + 610);
    }

    private static void frees(Check c) {
        GreenHours x = new GreenHours();
        x.place(3);
        x.place(1);
        x.job(0, 0, 3, 0, 3, 0);
        x.job(0, 0, 2, 0, 2, 9);
        x.job(0, 0, 1, 5, 6, 0);
        x.lay();
        c.due("what is laid takes no ROOM", x.free(0, 0), 3);
        x.pass(1);
        c.due("NOW", x.free(0, 1), 1);
        c.due("behind one", x.free(0, 2), 2);
        c.due("behind both", x.free(0, 3), 3);
        c.due("one that WAITS takes no ROOM", x.free(0, 5), 3);
        c.due("the other PLACE", x.free(1, 1), 1);
        c.due("the last HOUR", x.free(0, 299), 3);
        c.refused("place, for its trouble", x, x.place(0), 2);
        int[] noHour = {LEAST, -1, 0, 300, MOST};
        for (int h : noHour) {
            c.due("free(0, " + h + ")", x.free(0, h), -1);
        }
        int[] noPlace = {LEAST, -1, 2, 4, MOST};
        for (int p : noPlace) {
            c.due("free(" + p + ", 1)", x.free(p, 1), -1);
        }
        c.due("trouble() is not free's", x.trouble(), 2);
    }
}
