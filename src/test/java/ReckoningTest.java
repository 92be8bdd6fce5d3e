/** Promises 18 to 25: paid, atOnce, saved, regret, worst, would, count, trouble. */
public final class ReckoningTest {
    private static final int LEAST = Integer.MIN_VALUE;
    private static final int MOST = Integer.MAX_VALUE;

    public static void main(String[] args) {
        Check c = new Check();
        paids(c);
        savedBelowNothing(c);
        atOnceByTrueNumbers(c);
        regrets(c);
        regretsByDue(c);
        regretsOfOthers(c);
        regretsWithFares(c);
        worsts(c);
        woulds(c);
        wouldsRefused(c);
        counts(c);
        troubles(c);
        c.end("ReckoningTest");
    }

    private static void paids(Check c) {
        GreenHours x = new GreenHours();
        x.place(2);
        x.place(1);
        x.green(1, 0, 9, 100);
        x.fare(0, 1, 3);
        x.job(0, 0, 2, 0, 9, 10);
        x.job(0, 0, 3, 0, 3, 0);
        x.pass(1);
        c.due("paid() of one BEGUN", x.paid(), 100);
        c.due("atOnce() of none DONE", x.atOnce(), 0);
        c.due("saved() of none DONE", x.saved(), 0);
        x.pass(2);
        c.due("paid() of one DONE", x.paid(), 300);
        c.due("atOnce() of one DONE", x.atOnce(), 1500);
        c.due("saved() of one DONE", x.saved(), 1200);
        x.pass(1);
        c.due("paid() of one DONE and one BEGUN", x.paid(), 300 + 130);
        c.due("atOnce() without the one BEGUN", x.atOnce(), 1500);
        c.due("saved() without the one BEGUN", x.saved(), 1200);
        x.pass(1);
        c.due("paid() of both", x.paid(), 300 + 230);
        c.due("atOnce() of both", x.atOnce(), 2500);
        c.due("saved() of both", x.saved(), 1970);
    }

    private static void savedBelowNothing(Check c) {
        GreenHours x = new GreenHours();
        x.place(1);
        x.green(0, 4, 4, 300);
        x.job(0, 0, 1, 0, 5, 0);
        x.pass(3);
        x.green(0, 3, 4, 900);
        x.pass(2);
        c.due("paid()", x.paid(), 900);
        c.due("atOnce()", x.atOnce(), 500);
        c.due("saved()", x.saved(), -400);
    }

    /** TRUE: as it was foretold when the HOUR began; ROOM is of no matter. */
    private static void atOnceByTrueNumbers(Check c) {
        GreenHours x = new GreenHours();
        x.place(1);
        x.place(9);
        x.green(0, 0, 20, 700);
        x.green(1, 8, 9, 5);
        x.job(0, 0, 2, 1, 20, 1);
        x.job(0, 0, 2, 1, 20, 1);
        x.pass(2);
        x.green(0, 2, 2, 600);
        x.pass(10);
        c.due("paid()", x.paid(), 22);
        c.due("atOnce()", x.atOnce(), 2 * 1300);
        c.due("saved()", x.saved(), 2578);
        x.fare(0, 1, 99);
        c.due("FARES are of no matter at HOME", x.atOnce(), 2600);
        c.due("nor for what was PAID", x.saved(), 2578);
    }

    private static void regrets(Check c) {
        GreenHours x = new GreenHours();
        x.place(1);
        x.place(1);
        x.green(0, 3, 3, 400);
        x.job(0, 0, 2, 2, 12, 10);
        x.pass(3);
        c.due("none while BEGUN", x.regret(0), -1);
        x.pass(1);
        c.due("paid()", x.paid(), 900);
        c.due("nothing better yet", x.regret(0), 0);
        x.green(1, 6, 7, 300);
        x.pass(3);
        c.due("better elsewhere, an HOUR of it not past", x.regret(0), 900 - 810);
        x.pass(1);
        c.due("better elsewhere, with the FARE", x.regret(0), 900 - 610);
        x.green(0, 10, 11, 100);
        x.pass(3);
        c.due("better at HOME, an HOUR of it not past", x.regret(0), 900 - 600);
        x.pass(1);
        c.due("better at HOME", x.regret(0), 700);
        x.place(1);
        c.due("a new PLACE at 500", x.regret(0), 700);
    }

    /** No LAYING ends behind DUE or begins ahead of the HOUR from which on it may. */
    private static void regretsByDue(Check c) {
        GreenHours x = new GreenHours();
        x.place(1);
        x.green(0, 1, 2, 0);
        x.job(0, 0, 2, 2, 6, 0);
        x.pass(4);
        c.due("begun at 2", x.about(0, 2), 2);
        x.green(0, 5, 6, 0);
        x.pass(4);
        c.due("neither from 1 on nor up to 7", x.regret(0), 500 - 500);
        x = new GreenHours();
        x.place(1);
        x.green(0, 4, 4, 499);
        x.job(0, 0, 1, 2, 6, 0);
        x.pass(3);
        x.green(0, 4, 4, 600);
        x.green(0, 3, 3, 600);
        x.green(0, 5, 5, 550);
        x.pass(5);
        c.due("put off in vain", x.about(0, 3), 550);
        c.due("an HOUR ahead of its beginning was better", x.regret(0), 50);
    }

    private static void regretsOfOthers(Check c) {
        GreenHours x = new GreenHours();
        c.due("regret(0) of none", x.regret(0), -1);
        x.place(1);
        x.job(0, 0, 1, 0, 9, 0);
        c.due("regret(0) of one that WAITS", x.regret(0), -1);
        x.drop(0);
        c.due("regret(0) of one LOST", x.regret(0), -1);
        c.refused("place, for its trouble", x, x.place(0), 2);
        int[] none = {LEAST, -1, 1, 40, MOST};
        for (int j : none) {
            c.due("regret(" + j + ")", x.regret(j), -1);
        }
        c.due("worst() of none DONE", x.worst(), -2);
        c.due("trouble() is not theirs", x.trouble(), 2);
    }

    /** COST is by the FARE as it is; what was PAID is as it was. */
    private static void regretsWithFares(Check c) {
        GreenHours x = new GreenHours();
        x.place(1);
        x.place(1);
        x.green(1, 0, 9, 100);
        x.job(0, 0, 1, 0, 1, 10);
        x.job(1, 0, 1, 0, 2, 0);
        x.pass(2);
        c.due("PAID with DATA", x.about(0, 3), 110);
        c.due("regret(0)", x.regret(0), 0);
        x.fare(0, 1, 0);
        c.due("regret(0) by a lesser FARE", x.regret(0), 10);
        x.fare(0, 1, 20);
        c.due("regret(0) by a greater FARE", x.regret(0), 110 - 300);
        c.due("regret(1) has no DATA", x.regret(1), 0);
        c.due("worst(), one below 0", x.worst(), 1);
    }

    private static void worsts(Check c) {
        GreenHours x = new GreenHours();
        x.place(4);
        x.job(0, 0, 1, 0, 2, 0);
        x.job(0, 0, 1, 0, 9, 0);
        x.job(0, 0, 2, 0, 9, 0);
        x.job(0, 0, 2, 0, 9, 0);
        x.pass(1);
        c.due("worst() of as great ones", x.worst(), 0);
        x.green(0, 3, 4, 100);
        x.pass(3);
        c.due("regret(0), DUE ahead", x.regret(0), 0);
        c.due("regret(1)", x.regret(1), 400);
        c.due("regret(2), an HOUR of it", x.regret(2), 400);
        c.due("worst(): the least of as great ones", x.worst(), 1);
        x.pass(1);
        c.due("regret(2)", x.regret(2), 800);
        c.due("worst(): the greatest", x.worst(), 2);
        x = new GreenHours();
        x.place(1);
        x.place(1);
        x.job(0, 0, 1, 0, 1, 10);
        x.green(0, 0, 0, 900);
        x.pass(1);
        x.fare(0, 1, 9);
        c.due("regret(0) below 0", x.regret(0), -80);
        c.due("worst() below 0", x.worst(), 0);
    }

    private static void woulds(Check c) {
        GreenHours x = new GreenHours();
        x.place(1);
        x.place(1);
        x.green(0, 2, 2, 10);
        x.green(0, 3, 3, 20);
        x.green(1, 7, 7, 1);
        x.fare(0, 1, 4);
        x.job(0, 0, 2, 2, 8, 10);
        x.job(0, 0, 6, 0, 6, 0);
        c.granted("from its HOUR on", x, x.would(0, 0, 2), 30);
        c.granted("ahead of its HOUR", x, x.would(0, 0, 1), -2);
        c.granted("just by DUE", x, x.would(0, 1, 6), 501 + 40);
        c.granted("not by DUE", x, x.would(0, 1, 7), -2);
        c.granted("HOUR -1", x, x.would(0, 1, -1), -2);
        c.granted("the least HOUR", x, x.would(0, 1, LEAST), -2);
        c.granted("HOUR 300", x, x.would(0, 1, 300), -2);
        c.granted("the greatest HOUR", x, x.would(0, 1, MOST), -2);
        x.pass(3);
        c.granted("whatever the ROOM", x, x.would(0, 0, 4), 1000);
        c.granted("in a past HOUR, TRUE", x, x.would(0, 0, 2), 30);
        x.pass(9);
        c.granted("of one DONE", x, x.would(0, 1, 6), 541);
        x.job(0, 0, 1, 299, 300, 0);
        c.granted("in the last HOUR", x, x.would(2, 1, 299), 500);
        x.drop(2);
        c.granted("of one LOST", x, x.would(2, 0, 299), 500);
    }

    private static void wouldsRefused(Check c) {
        GreenHours x = new GreenHours();
        x.place(1);
        x.job(0, 0, 2, 2, 8, 10);
        int[] none = {LEAST, -1, 1, 4, 40, MOST};
        for (int v : none) {
            c.refused("would(" + v + ", 0, 2)", x, x.would(v, 0, 2), 1);
            c.refused("would(0, " + v + ", 2)", x, x.would(0, v, 2), 1);
            c.refused("would(0, " + v + ", 0)", x, x.would(0, v, 0), 1);
        }
    }

    private static void counts(Check c) {
        GreenHours x = new GreenHours();
        x.place(2);
        x.place(1);
        x.place(1);
        x.job(0, 0, 1, 0, 1, 0);
        x.job(0, 0, 9, 0, 9, 0);
        x.job(0, 0, 9, 0, 9, 99);
        for (int i = 0; i < 4; i++) {
            x.job(0, 0, 1, 20, 30, 0);
        }
        for (int i = 3; i < 6; i++) {
            x.job(0, 0, 1, 20, 30, 0);
            x.drop(i);
        }
        x.pass(2);
        int[] due = {3, 10, 4, 2, 1, 3, 2};
        for (int what = 0; what < due.length; what++) {
            c.due("count(" + what + ")", x.count(what), due[what]);
        }
        c.refused("place, for its trouble", x, x.place(0), 2);
        int[] none = {LEAST, -1, 7, MOST};
        for (int what : none) {
            c.due("count(" + what + ")", x.count(what), -1);
        }
        c.due("trouble() is not count's", x.trouble(), 2);
    }

    /** TROUBLE is that of the latest call that may be refused; what only asks leaves it. */
    private static void troubles(Check c) {
        GreenHours x = new GreenHours();
        c.due("at first", x.trouble(), 0);
        c.refused("1", x, x.drop(0), 1);
        c.due("asked again", x.trouble(), 1);
        x.told(0, 0);
        x.about(0, 0);
        x.lay();
        x.laid(0, 0);
        x.cost();
        x.free(0, 0);
        x.delay(9);
        x.behind(9);
        x.paid();
        x.atOnce();
        x.saved();
        x.regret(0);
        x.worst();
        x.count(9);
        c.due("behind calls that only ask", x.trouble(), 1);
        c.granted("place(1)", x, x.place(1), 0);
        c.refused("2", x, x.patience(0), 2);
        c.granted("best() of none", x, x.best(), 0);
        x.place(1);
        x.place(1);
        x.place(1);
        c.refused("3", x, x.place(1), 3);
        c.granted("pass(1)", x, x.pass(1), 0);
        x.job(0, 0, 1, 1, 9, 0);
        x.drop(0);
        c.refused("4", x, x.drop(0), 4);
        c.granted("would()", x, x.would(0, 0, 0), -2);
        c.refused("4 again", x, x.drop(0), 4);
        c.granted("patience(500)", x, x.patience(500));
        c.refused("1 again", x, x.fare(0, 0, 0), 1);
        c.granted("fare(0, 1, 0)", x, x.fare(0, 1, 0));
        c.refused("2 again", x, x.green(0, 0, 0, 0), 2);
        c.granted("green(0, 1, 1, 0)", x, x.green(0, 1, 1, 0));
        c.refused("2 once more", x, x.pass(0), 2);
        c.granted("job()", x, x.job(0, 0, 1, 1, 9, 0), 1);
    }
}
