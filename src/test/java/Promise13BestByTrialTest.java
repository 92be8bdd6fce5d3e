import java.util.Random;

/** Promise 13 on JOBS with many LAYINGS: best() beside trying every three of them. */
public final class Promise13BestByTrialTest {
    private static final int JOBS = 3;

    private final int places;
    private final int end;
    private final int room;
    private final int fare;
    private final int[][] green;
    private final int[][] used;
    private final int[] home = new int[JOBS];
    private final int[] length = new int[JOBS];
    private final int[] from = new int[JOBS];
    private final int[] due = new int[JOBS];
    private final int[] data = new int[JOBS];
    private int least = GreenHours.NONE;

    public static void main(String[] args) {
        Check c = new Check("Promise 13, best by trial");
        c.test("one PLACE", t -> trials(t, 1, 70));
        c.test("two PLACES", t -> trials(t, 2, 26));
        c.end();
    }

    private static void trials(Check c, int places, int end) {
        Random random = new Random(7);
        for (int run = 0; run < 250; run++) {
            new Promise13BestByTrialTest(random, run, places, end).compare(c, "run " + run);
        }
    }

    private Promise13BestByTrialTest(Random random, int run, int places, int end) {
        this.places = places;
        this.end = end;
        room = 1 + random.nextInt(2);
        fare = random.nextInt(5);
        green = new int[places][end];
        used = new int[places][end];
        for (int p = 0; p < places; p++) {
            for (int h = 0; h < end; h++) {
                green[p][h] = 20 + Math.abs(h - end / 2) * (1 + run % 5)
                    + random.nextInt(1 + run % 7 * 10);
            }
        }
        for (int i = 0; i < JOBS; i++) {
            home[i] = random.nextInt(places);
            length[i] = run % 3 == 0 ? 12 : 1 + random.nextInt(12);
            from[i] = run % 2 == 0 ? 0 : random.nextInt(end - 12);
            due[i] = run % 2 == 0 ? end : from[i] + length[i]
                + random.nextInt(end - from[i] - length[i] + 1);
            data[i] = random.nextInt(30);
        }
    }

    private void compare(Check c, String name) {
        GreenHours x = house();
        lay(0, 0);
        c.due(name + ": best()", x.best(), least);
        c.due(name + ": trouble()", x.trouble(), least == GreenHours.NONE ? 4 : 0);
    }

    private GreenHours house() {
        GreenHours x = new GreenHours();
        for (int p = 0; p < places; p++) {
            x.place(room);
            for (int h = 0; h < end; h++) {
                x.green(p, h, h, green[p][h]);
            }
        }
        if (places == 2) {
            x.fare(0, 1, fare);
        }
        for (int i = 0; i < JOBS; i++) {
            x.job(i, home[i], length[i], from[i], due[i], data[i]);
        }
        return x;
    }

    /** Every way to lay the JOBS from i on, for which what is laid has cost sum. */
    private void lay(int i, int sum) {
        if (i == JOBS) {
            least = sum;
            return;
        }
        for (int p = 0; p < places; p++) {
            for (int h = from[i]; h + length[i] <= due[i]; h++) {
                int all = sum + cost(i, p, h);
                if ((least == GreenHours.NONE || all < least) && fits(i, p, h)) {
                    use(i, p, h, 1);
                    lay(i + 1, all);
                    use(i, p, h, -1);
                }
            }
        }
    }

    private int cost(int i, int p, int hour) {
        int sum = p == home[i] ? 0 : data[i] * fare;
        for (int h = hour; h < hour + length[i]; h++) {
            sum += green[p][h];
        }
        return sum;
    }

    private boolean fits(int i, int p, int hour) {
        for (int h = hour; h < hour + length[i]; h++) {
            if (used[p][h] >= room) {
                return false;
            }
        }
        return true;
    }

    private void use(int i, int p, int hour, int by) {
        for (int h = hour; h < hour + length[i]; h++) {
            used[p][h] += by;
        }
    }
}
