import java.util.Random;

/**
 * Random runs, from fixed seeds, of GreenHours beside the plain model; no call may throw. An object
 * is asked no more than the 512 calls for which the document speaks.
 */
public final class ModelTest {
    private static final int SEEDS = 1500;
    private static final int CALLS = 512;
    /** The most calls of one step or one ask. */
    private static final int CALLS_AT_ONCE = 30;
    private static final int[] WILD = {Integer.MIN_VALUE, Integer.MIN_VALUE + 1, -300, -2, -1, 0, 1, 2,
        3, 4, 5, 6, 9, 10, 12, 13, 39, 40, 48, 49, 99, 100, 298, 299, 300, 301, 500, 501, 999, 1000,
        Integer.MAX_VALUE - 1, Integer.MAX_VALUE};

    private final Check check;
    private final Random random;
    private final GreenHours x = new GreenHours();
    private final Model m = new Model();
    private final int seed;
    /** How far DUE may lie behind the least that it must be. */
    private final int slack;
    /** How many HOURS go at once, so that some runs come to the last one. */
    private final int stride;
    private int calls = 0;
    private String last = "";

    private ModelTest(Check check, int seed) {
        this.check = check;
        this.seed = seed;
        this.slack = seed % 2 == 0 ? 6 : 30;
        this.stride = seed % 3 == 0 ? 20 : 4;
        this.random = new Random(seed);
    }

    public static void main(String[] args) {
        Check check = new Check("Beside the model");
        check.test("random runs", ModelTest::runs);
        check.end();
    }

    private static void runs(Check check) {
        for (int seed = 0; seed < SEEDS && check.wrongSoFar() < 20; seed++) {
            new ModelTest(check, seed).run();
        }
    }

    private void run() {
        if (seed % 5 != 0) {
            for (int i = random.nextInt(3); i >= 0; i--) {
                addPlace(random.nextInt(3) + 1);
            }
        }
        while (calls < CALLS - 3 * CALLS_AT_ONCE) {
            step(random.nextInt(100));
            due("trouble()", x.trouble(), m.trouble);
        }
        while (calls <= CALLS - CALLS_AT_ONCE) {
            ask();
        }
    }

    /** Each answer is that of one call. */
    private void due(String call, long got, long want) {
        calls++;
        check.due("seed " + seed + " behind " + last + ": " + call, got, want);
    }

    private void due(String call, boolean got, boolean want) {
        due(call, got ? 1 : 0, want ? 1 : 0);
    }

    /** Mostly the number given, now and then a wild one. */
    private int or(int v) {
        return random.nextInt(25) == 0 ? WILD[random.nextInt(WILD.length)] : v;
    }

    private int anyPlace() {
        return or(random.nextInt(Math.max(1, m.rooms.size())));
    }

    private int anyJob() {
        return or(random.nextInt(Math.max(1, m.jobs.size())));
    }

    private int anyHour() {
        return or(Math.max(0, m.now - 5 + random.nextInt(25)));
    }

    private void step(int kind) {
        if (kind < 3) {
            addPlace(or(random.nextInt(9) + 1));
        } else if (kind < 8) {
            int a = anyPlace();
            int b = anyPlace();
            int v = or(random.nextInt(100));
            last = "fare(" + a + ", " + b + ", " + v + ")";
            due(last, x.fare(a, b, v), m.fare(a, b, v));
        } else if (kind < 28) {
            tellGreen();
        } else if (kind < 31) {
            int v = or(random.nextInt(12) + 1);
            last = "patience(" + v + ")";
            due(last, x.patience(v), m.patience(v));
        } else if (kind < 56) {
            addJob();
        } else if (kind < 59) {
            int j = anyJob();
            last = "drop(" + j + ")";
            due(last, x.drop(j), m.drop(j));
        } else if (kind < 64) {
            last = "lay()";
            due(last, x.lay(), m.lay());
            compareLaid();
        } else if (kind < 74) {
            compareBest();
        } else if (kind < 84) {
            int n = or(random.nextInt(stride) + 1);
            last = "pass(" + n + ")";
            due(last, x.pass(n), m.pass(n));
        } else if (kind < 90) {
            int j = anyJob();
            int p = anyPlace();
            int h = anyHour();
            last = "would(" + j + ", " + p + ", " + h + ")";
            due(last, x.would(j, p, h), m.would(j, p, h));
        } else {
            ask();
        }
    }

    private void addPlace(int room) {
        last = "place(" + room + ")";
        due(last, x.place(room), m.place(room));
    }

    private void tellGreen() {
        int p = anyPlace();
        int from = or(Math.min(299, m.now + random.nextInt(12)));
        int to = or(Math.min(299, from + random.nextInt(5)));
        int v = or(random.nextInt(4) == 0 ? random.nextInt(1000) : random.nextInt(6));
        last = "green(" + p + ", " + from + ", " + to + ", " + v + ")";
        due(last, x.green(p, from, to, v), m.green(p, from, to, v));
    }

    private void addJob() {
        int owner = or(random.nextInt(6));
        int home = anyPlace();
        int length = or(random.nextInt(random.nextInt(4) == 0 ? 12 : 4) + 1);
        int from = or(m.now + random.nextInt(6));
        int due = or(from + length + random.nextInt(slack));
        int data = or(random.nextInt(12));
        last = "job(" + owner + ", " + home + ", " + length + ", " + from + ", " + due + ", " + data
            + ")";
        due(last, x.job(owner, home, length, from, due, data),
            m.job(owner, home, length, from, due, data));
    }

    /** The model tries every way, so only where these are few. */
    private void compareBest() {
        long ways = 1;
        for (Model.Job j : m.jobs) {
            if (j.state == 0) {
                int hours = j.due - j.length - Math.max(m.now, j.from) + 1;
                ways = Math.min(1000000, ways * Math.max(1, hours * m.rooms.size()));
            }
        }
        if (m.count(2) > 3 || ways < 20000) {
            last = "best()";
            due(last, x.best(), m.best());
        }
    }

    private void compareLaid() {
        due("cost()", x.cost(), m.cost());
        int first = random.nextInt(Math.max(1, m.jobs.size()));
        for (int j = first; j < first + 8; j++) {
            for (int w = 0; w <= 2; w++) {
                due("laid(" + j + ", " + w + ")", x.laid(j, w), m.laid(j, w));
            }
        }
    }

    private void ask() {
        int j = anyJob();
        int p = anyPlace();
        int h = anyHour();
        int w = or(random.nextInt(11));
        due("told(" + p + ", " + h + ")", x.told(p, h), m.told(p, h));
        due("about(" + j + ", " + w + ")", x.about(j, w), m.about(j, w));
        for (int what = 0; what <= 3; what++) {
            due("about(" + j + ", " + what + ")", x.about(j, what), m.about(j, what));
        }
        due("laid(" + j + ", " + w + ")", x.laid(j, w), m.laid(j, w));
        due("free(" + p + ", " + h + ")", x.free(p, h), m.free(p, h));
        due("delay(" + w + ")", x.delay(w), m.delay(w));
        due("behind(" + w + ")", x.behind(w), m.behind(w));
        due("regret(" + j + ")", x.regret(j), m.regret(j));
        due("count(" + w + ")", x.count(w), m.count(w));
        due("cost()", x.cost(), m.cost());
        due("paid()", x.paid(), m.paid());
        due("atOnce()", x.atOnce(), m.atOnce());
        due("saved()", x.saved(), m.saved());
        due("worst()", x.worst(), m.worst());
    }
}
