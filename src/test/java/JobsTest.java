/** Promises 7 to 9: job, drop, about. */
public final class JobsTest {
    private static final int LEAST = Integer.MIN_VALUE;
    private static final int MOST = Integer.MAX_VALUE;

    public static void main(String[] args) {
        Check c = new Check();
        jobs(c);
        jobsRefused(c);
        jobsAheadOfNow(c);
        fortyJobs(c);
        drops(c);
        abouts(c);
        aboutsWhileWorking(c);
        c.end("JobsTest");
    }

    private static void jobs(Check c) {
        GreenHours x = new GreenHours();
        x.place(1);
        x.place(1);
        c.granted("the plainest JOB", x, x.job(0, 0, 1, 0, 1, 0), 0);
        c.granted("the greatest JOB", x, x.job(5, 1, 12, 288, 300, 99), 1);
        c.granted("the last HOUR", x, x.job(5, 1, 1, 299, 300, 99), 2);
        c.granted("just by DUE", x, x.job(2, 1, 3, 4, 7, 1), 3);
        c.due("count(1)", x.count(1), 4);
        c.due("count(2)", x.count(2), 4);
    }

    private static void jobsRefused(Check c) {
        GreenHours x = new GreenHours();
        c.refused("no PLACE", x, x.job(0, 0, 1, 0, 5, 0), 1);
        x.place(1);
        int[] noHome = {LEAST, -1, 1, 4, MOST};
        for (int p : noHome) {
            c.refused("HOME " + p, x, x.job(0, p, 1, 0, 5, 0), 1);
            c.refused("HOME " + p + " and a wrong OWNER", x, x.job(6, p, 1, 0, 5, 0), 1);
        }
        int[] noOwner = {LEAST, -1, 6, MOST};
        for (int o : noOwner) {
            c.refused("OWNER " + o, x, x.job(o, 0, 1, 0, 5, 0), 2);
        }
        int[] noLength = {LEAST, -1, 0, 13, MOST};
        for (int n : noLength) {
            c.refused("LENGTH " + n, x, x.job(0, 0, n, 0, 50, 0), 2);
        }
        int[] noFrom = {LEAST, -1, 5, 299, 300, MOST};
        for (int h : noFrom) {
            c.refused("from " + h, x, x.job(0, 0, 1, h, 5, 0), 2);
        }
        int[] noDue = {LEAST, LEAST + 1, -1, 0, 2, 301, MOST};
        for (int d : noDue) {
            c.refused("DUE " + d, x, x.job(0, 0, 3, 0, d, 0), 2);
        }
        c.refused("from 299, DUE the greatest", x, x.job(0, 0, 2, 299, MOST, 0), 2);
        c.refused("from 299, DUE 301", x, x.job(0, 0, 2, 299, 301, 0), 2);
        c.refused("from and DUE the greatest", x, x.job(0, 0, 1, MOST, MOST, 0), 2);
        c.refused("from the greatest, DUE the least", x, x.job(0, 0, 1, MOST, LEAST, 0), 2);
        int[] noData = {LEAST, -1, 100, MOST};
        for (int d : noData) {
            c.refused("DATA " + d, x, x.job(0, 0, 1, 0, 5, d), 2);
        }
        c.due("count(1) behind refused ones", x.count(1), 0);
    }

    private static void jobsAheadOfNow(Check c) {
        GreenHours x = new GreenHours();
        x.place(1);
        x.pass(7);
        c.refused("ahead of NOW", x, x.job(0, 0, 1, 6, 20, 0), 2);
        c.granted("from NOW on", x, x.job(0, 0, 1, 7, 20, 0), 0);
        c.granted("from NOW on, DUE at once", x, x.job(0, 0, 1, 7, 8, 0), 1);
    }

    private static void fortyJobs(Check c) {
        GreenHours x = new GreenHours();
        x.place(9);
        for (int i = 0; i < 40; i++) {
            c.granted("JOB " + i, x, x.job(i % 6, 0, 1, 0, 100, 0), i);
        }
        c.refused("JOB 40", x, x.job(0, 0, 1, 0, 100, 0), 3);
        c.refused("JOB 40, a wrong number", x, x.job(0, 0, 0, 0, 100, 0), 2);
        c.refused("JOB 40, no HOME", x, x.job(0, 1, 0, 0, 100, 0), 1);
        x.drop(3);
        x.pass(48);
        c.due("all but one DONE", x.count(4), 39);
        c.refused("JOB 40, though none WAITS", x, x.job(0, 0, 1, 48, 100, 0), 3);
    }

    private static void drops(Check c) {
        GreenHours x = new GreenHours();
        x.place(1);
        c.refused("drop of no JOB", x, x.drop(0), 1);
        x.job(0, 0, 2, 0, 2, 0);
        x.job(0, 0, 1, 0, 1, 0);
        x.job(0, 0, 1, 0, 9, 0);
        int[] none = {LEAST, -1, 3, 40, MOST};
        for (int j : none) {
            c.refused("drop(" + j + ")", x, x.drop(j), 1);
        }
        c.granted("drop(1)", x, x.drop(1));
        c.due("it is LOST", x.about(1, 0), 3);
        c.due("count(5)", x.count(5), 1);
        c.refused("drop(1) again", x, x.drop(1), 4);
        c.due("lay() without it", x.lay(), 2);
        x.pass(1);
        c.due("JOB 0 is BEGUN", x.about(0, 0), 1);
        c.refused("drop of one BEGUN", x, x.drop(0), 4);
        x.pass(1);
        c.due("JOB 0 is DONE", x.about(0, 0), 2);
        c.refused("drop of one DONE", x, x.drop(0), 4);
        c.due("it stays DONE", x.about(0, 0), 2);
        c.granted("drop(2)", x, x.drop(2));
        c.due("none is done any more", x.pass(20), 0);
    }

    private static void abouts(Check c) {
        GreenHours x = new GreenHours();
        x.place(1);
        x.place(1);
        x.job(4, 1, 3, 8, 20, 77);
        int[] due = {0, -1, -1, 0, 4, 1, 3, 8, 20, 77};
        for (int what = 0; what < due.length; what++) {
            c.due("about(0, " + what + ")", x.about(0, what), due[what]);
        }
        c.refused("place, for its trouble", x, x.place(0), 2);
        int[] noWhat = {LEAST, -1, 10, MOST};
        for (int what : noWhat) {
            c.due("about(0, " + what + ")", x.about(0, what), -1);
        }
        int[] noJob = {LEAST, -1, 1, 40, MOST};
        for (int j : noJob) {
            c.due("about(" + j + ", 0)", x.about(j, 0), -1);
        }
        c.due("trouble() is not about's", x.trouble(), 2);
        x.drop(0);
        c.due("LOST", x.about(0, 0), 3);
        c.due("LOST: no PLACE", x.about(0, 1), -1);
        c.due("LOST: no HOUR", x.about(0, 2), -1);
        c.due("LOST: nothing PAID", x.about(0, 3), 0);
    }

    private static void aboutsWhileWorking(Check c) {
        GreenHours x = new GreenHours();
        x.place(1);
        x.place(1);
        x.green(1, 2, 2, 10);
        x.green(1, 3, 3, 20);
        x.green(1, 4, 4, 30);
        x.fare(0, 1, 2);
        x.job(1, 0, 3, 1, 9, 5);
        x.pass(2);
        c.due("WAITS", x.about(0, 0), 0);
        c.due("not begun anywhere", x.about(0, 1), -1);
        x.pass(1);
        c.due("BEGUN", x.about(0, 0), 1);
        c.due("the PLACE", x.about(0, 1), 1);
        c.due("the HOUR", x.about(0, 2), 2);
        c.due("PAID: GREEN and DATA", x.about(0, 3), 20);
        x.fare(0, 1, 50);
        x.pass(1);
        c.due("PAID: the DATA once, at its FARE then", x.about(0, 3), 40);
        x.green(1, 4, 4, 31);
        c.due("DONE in its last HOUR", x.pass(1), 1);
        c.due("DONE", x.about(0, 0), 2);
        c.due("PAID: as told when the HOUR began", x.about(0, 3), 71);
        x.pass(3);
        c.due("PAID for its HOURS alone", x.about(0, 3), 71);
        c.due("the PLACE when DONE", x.about(0, 1), 1);
        c.due("the HOUR when DONE", x.about(0, 2), 2);
    }
}
