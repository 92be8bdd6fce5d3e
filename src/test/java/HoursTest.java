/** Promises 15 to 17: pass, delay, behind. */
public final class HoursTest {
    private static final int LEAST = Integer.MIN_VALUE;
    private static final int MOST = Integer.MAX_VALUE;

    public static void main(String[] args) {
        Check c = new Check();
        passesRefused(c);
        lastHour(c);
        dones(c);
        laidAnew(c);
        begunStay(c);
        losts(c);
        lostsOfCrowding(c);
        delays(c);
        behindGoesFirst(c);
        behindWithinOnePass(c);
        c.end("HoursTest");
    }

    private static void passesRefused(Check c) {
        GreenHours x = new GreenHours();
        x.place(1);
        x.job(0, 0, 1, 0, 1, 0);
        int[] wrong = {LEAST, -1, 0, 49, 300, MOST};
        for (int n : wrong) {
            c.refused("pass(" + n + ")", x, x.pass(n), 2);
        }
        c.due("NOW behind refused ones", x.count(6), 0);
        c.due("nothing began", x.count(2), 1);
        c.granted("pass(1)", x, x.pass(1), 1);
        c.granted("pass(48)", x, x.pass(48), 0);
        c.due("NOW", x.count(6), 49);
    }

    private static void lastHour(Check c) {
        GreenHours x = new GreenHours();
        x.place(1);
        x.job(0, 0, 1, 298, 299, 0);
        x.job(0, 0, 1, 299, 300, 0);
        x.job(0, 0, 2, 297, 300, 0);
        for (int i = 0; i < 6; i++) {
            x.pass(48);
        }
        c.due("NOW", x.count(6), 288);
        c.refused("pass(12)", x, x.pass(12), 3);
        c.refused("pass(49) there", x, x.pass(49), 2);
        c.due("NOW stays", x.count(6), 288);
        c.granted("pass(11)", x, x.pass(11), 1);
        c.due("NOW is 299", x.count(6), 299);
        c.refused("pass(1) at 299", x, x.pass(1), 3);
        c.due("the last JOB WAITS", x.about(1, 0), 0);
        c.due("it can be laid", x.lay(), 1);
        c.due("at 299", x.laid(1, 1), 299);
        c.granted("green of 299", x, x.green(0, 299, 299, 3));
        c.granted("best() of 299", x, x.best(), 3);
        c.due("the one that can't end is LOST", x.about(2, 0), 3);
        c.granted("another JOB at 299", x, x.job(0, 0, 1, 299, 300, 0), 3);
    }

    private static void dones(Check c) {
        GreenHours x = new GreenHours();
        x.place(3);
        x.job(0, 0, 1, 0, 9, 0);
        x.job(0, 0, 2, 0, 9, 0);
        x.job(0, 0, 3, 1, 9, 0);
        c.due("pass(1)", x.pass(1), 1);
        c.due("count(3)", x.count(3), 1);
        c.due("pass(2)", x.pass(2), 1);
        c.due("pass(1)", x.pass(1), 1);
        c.due("count(4)", x.count(4), 3);
        c.due("pass(1) of none", x.pass(1), 0);
    }

    private static void laidAnew(Check c) {
        GreenHours x = new GreenHours();
        x.place(1);
        x.place(1);
        x.green(0, 5, 5, 10);
        x.job(0, 0, 1, 0, 20, 0);
        x.lay();
        c.due("laid for 5", x.laid(0, 1), 5);
        x.pass(3);
        x.green(1, 4, 4, 2);
        x.pass(2);
        c.due("begun where it became cheaper", x.about(0, 1), 1);
        c.due("and when", x.about(0, 2), 4);
        c.due("DONE", x.about(0, 0), 2);
    }

    private static void begunStay(Check c) {
        GreenHours x = new GreenHours();
        x.place(1);
        x.place(1);
        x.job(0, 0, 3, 0, 20, 0);
        x.pass(1);
        x.green(0, 1, 19, 900);
        x.green(1, 1, 19, 0);
        x.pass(2);
        c.due("it stays where it was begun", x.about(0, 1), 0);
        c.due("PAID there", x.about(0, 3), 500 + 900 + 900);
        c.due("DONE", x.about(0, 0), 2);
    }

    private static void losts(Check c) {
        GreenHours x = new GreenHours();
        x.place(1);
        x.job(0, 0, 4, 0, 4, 0);
        x.job(0, 0, 2, 0, 4, 0);
        x.job(0, 0, 2, 0, 5, 0);
        x.pass(2);
        c.due("it might still end by DUE", x.about(1, 0), 0);
        x.pass(1);
        c.due("it can't any more", x.about(1, 0), 3);
        c.due("one with an HOUR more", x.about(2, 0), 0);
        x.pass(1);
        c.due("that one, too", x.about(2, 0), 3);
        c.due("count(5)", x.count(5), 2);
        c.due("DELAY without those LOST", x.delay(0), 0);
    }

    /** One that is laid for the next HOUR is not LOST; it is laid with the last that it can be. */
    private static void lostsOfCrowding(Check c) {
        GreenHours x = new GreenHours();
        x.place(1);
        x.job(0, 0, 1, 0, 2, 0);
        x.green(0, 1, 1, 0);
        x.pass(1);
        c.due("it WAITS for its last HOUR", x.about(0, 0), 0);
        c.due("and is DONE then", x.pass(1), 1);
        x.job(0, 0, 1, 2, 3, 0);
        x.job(0, 0, 1, 2, 3, 0);
        c.due("one DONE", x.pass(1), 1);
        c.due("the other LOST", x.about(2, 0), 3);
        x = new GreenHours();
        x.place(1);
        x.job(0, 0, 2, 0, 3, 0);
        x.job(0, 0, 2, 0, 2, 0);
        x.pass(1);
        c.due("JOB 0 might still begin in the next HOUR", x.about(0, 0), 0);
        c.due("JOB 1, DUE ahead of it, is BEGUN", x.about(1, 0), 1);
        x.pass(1);
        c.due("JOB 0 is LOST", x.about(0, 0), 3);
    }

    private static void delays(Check c) {
        GreenHours x = new GreenHours();
        x.place(2);
        x.green(0, 0, 4, 900);
        x.job(1, 0, 1, 0, 9, 0);
        x.job(1, 0, 3, 2, 9, 0);
        x.job(2, 0, 1, 0, 1, 0);
        x.pass(5);
        c.due("those that WAIT have none", x.delay(1), 0);
        x.pass(1);
        c.due("of one DONE and one BEGUN", x.delay(1), 5 + 3);
        c.due("one at once", x.delay(2), 0);
        int[] none = {LEAST, -1, 6, MOST};
        c.refused("place, for its trouble", x, x.place(0), 2);
        for (int o : none) {
            c.due("delay(" + o + ")", x.delay(o), -1);
            c.due("behind(" + o + ")", x.behind(o), -1);
        }
        c.due("trouble() is not theirs", x.trouble(), 2);
        x.patience(8);
        c.due("8 is no more than 8", x.behind(1), 0);
        x.patience(7);
        c.due("8 is more than 7", x.behind(1), 1);
        c.due("another OWNER", x.behind(2), 0);
        x.pass(3);
        c.due("DELAY stays", x.delay(1), 8);
    }

    private static void behindGoesFirst(Check c) {
        GreenHours x = new GreenHours();
        x.place(1);
        x.patience(1);
        x.green(0, 0, 1, 900);
        x.job(4, 0, 1, 0, 3, 0);
        x.pass(3);
        c.due("behind(4)", x.behind(4), 1);
        x.job(0, 0, 1, 3, 4, 0);
        x.job(4, 0, 1, 3, 40, 0);
        x.green(0, 20, 20, 0);
        c.due("one is DONE", x.pass(1), 1);
        c.due("the one BEHIND, at once", x.about(2, 2), 3);
        c.due("the other is LOST", x.about(1, 0), 3);
    }

    /** Whether an OWNER is BEHIND is asked anew with each HOUR. */
    private static void behindWithinOnePass(Check c) {
        GreenHours x = new GreenHours();
        x.place(1);
        x.patience(1);
        x.green(0, 0, 1, 900);
        x.green(0, 2, 2, 0);
        x.green(0, 9, 9, 1);
        x.job(4, 0, 1, 0, 3, 0);
        x.job(4, 0, 1, 0, 10, 0);
        c.due("pass(10)", x.pass(10), 2);
        c.due("the first waits", x.about(0, 2), 2);
        c.due("the second no more", x.about(1, 2), 3);
    }
}
