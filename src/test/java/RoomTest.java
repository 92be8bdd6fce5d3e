import com.sun.management.ThreadMXBean;
import java.lang.management.ManagementFactory;

/** All calls of a run live in one room: only a new object and a new JOB take some of it. */
public final class RoomTest {
    /** Some 4,500 numbers of 4 bytes, in some 60 arrays and objects. */
    private static final long MOST_OF_OBJECT = 32_000;
    /** 40 JOBS, and the list that grows with them. */
    private static final long MOST_OF_JOBS = 8_000;
    /** Less than one small array for each of the rounds in which all calls are made. */
    private static final long MOST_OF_CALLS = 1_000;
    private static final int WARM_UP = 3;
    private static final int ROUNDS = 12;

    private static final ThreadMXBean THREADS =
        (ThreadMXBean) ManagementFactory.getThreadMXBean();

    public static void main(String[] args) {
        Check c = new Check("The room");
        c.test("what calls take", RoomTest::taken);
        c.end();
    }

    /** What the first runs take may be the machine's own, which loads classes. */
    private static void taken(Check c) {
        for (int i = 0; i < WARM_UP; i++) {
            run(c);
        }
        long[] bytes = run(c);
        atMost(c, "a new object", bytes[1] - bytes[0], MOST_OF_OBJECT);
        atMost(c, "PLACES and JOBS", bytes[2] - bytes[1], MOST_OF_JOBS);
        atMost(c, "the other calls", bytes[3] - bytes[2], MOST_OF_CALLS);
    }

    private static void atMost(Check c, String what, long bytes, long most) {
        c.due(what + " took " + bytes + " bytes; at most " + most, bytes <= most, true);
    }

    private static long soFar() {
        return THREADS.getThreadAllocatedBytes(Thread.currentThread().getId());
    }

    /** Answers what had been taken at first, with a new object, with JOBS, and in the end. */
    private static long[] run(Check c) {
        long[] bytes = new long[4];
        bytes[0] = soFar();
        GreenHours x = new GreenHours();
        bytes[1] = soFar();
        fill(x);
        bytes[2] = soFar();
        for (int i = 0; i < ROUNDS; i++) {
            change(x, i);
            ask(x, i);
        }
        int best = x.best();
        bytes[3] = soFar();
        c.due("DONE", x.count(4), 37);
        c.due("best() of the three that WAIT", best, 3 * 12);
        return bytes;
    }

    /** Three JOBS WAIT until the last HOURS, so that best() has its dearest search. */
    private static void fill(GreenHours x) {
        for (int p = 0; p < 4; p++) {
            x.place(1);
        }
        for (int j = 0; j < 37; j++) {
            x.job(j % 6, j % 4, 12, 0, 300 - j, 5);
        }
        for (int j = 37; j < 40; j++) {
            x.job(0, 1, 12, 250, 300, 5);
        }
    }

    private static void change(GreenHours x, int i) {
        x.place(1);
        x.fare(0, 1, i);
        x.green(1, 250, 299, 1);
        x.patience(1 + i);
        x.job(0, 0, 1, 299, 300, 0);
        x.drop(40);
        x.lay();
        x.pass(20);
    }

    private static void ask(GreenHours x, int i) {
        x.told(0, i);
        x.about(i, i);
        x.laid(i, 0);
        x.cost();
        x.best();
        x.free(0, 250);
        x.delay(i);
        x.behind(i);
        x.paid();
        x.atOnce();
        x.saved();
        x.regret(i);
        x.worst();
        x.would(i, 0, 0);
        x.count(i);
        x.trouble();
    }
}
