import java.util.Random;

/** Promise 13 on long JOBS with many LAYINGS: best() beside trying every three of them. */
public final class BestTest {
    private static final int END = 70;

    public static void main(String[] args) {
        Check c = new Check();
        Random random = new Random(7);
        for (int run = 0; run < 250; run++) {
            compare(c, random, run);
        }
        allOfTheCheapestTaken(c);
        cheapestBesideBegun(c);
        c.end("BestTest");
    }

    /** The other two must stand in the way of 23 LAYINGS each, which are the 46 cheapest. */
    private static void allOfTheCheapestTaken(Check c) {
        GreenHours x = new GreenHours();
        x.place(1);
        x.green(0, 0, 299, 999);
        x.green(0, 19, 52, 1);
        x.green(0, 59, 92, 1);
        x.job(0, 0, 12, 0, 300, 0);
        x.job(0, 0, 12, 30, 42, 0);
        x.job(0, 0, 12, 70, 82, 0);
        c.due("the 47th cheapest", x.best(), 999 + 11 + 12 + 12);
    }

    /** LAYINGS for which those BEGUN leave no ROOM must not hide the others. */
    private static void cheapestBesideBegun(Check c) {
        GreenHours x = new GreenHours();
        for (int p = 0; p < 4; p++) {
            x.place(1);
            x.job(0, p, 12, 0, 12, 0);
        }
        x.pass(1);
        c.due("BEGUN", x.count(3), 4);
        for (int p = 0; p < 4; p++) {
            x.green(p, 1, 22, 0);
        }
        x.green(0, 23, 25, 0);
        for (int i = 0; i < 3; i++) {
            x.job(0, 0, 12, 1, 40, 0);
        }
        c.due("one at PLACE 0, two elsewhere", x.best(), 1000);
    }

    private static void compare(Check c, Random random, int run) {
        GreenHours x = new GreenHours();
        int room = 1 + random.nextInt(2);
        x.place(room);
        int[] green = new int[END];
        for (int h = 0; h < END; h++) {
            green[h] = 20 + Math.abs(h - 40) * (1 + run % 5) + random.nextInt(1 + run % 7 * 10);
            x.green(0, h, h, green[h]);
        }
        int[] length = new int[3];
        int[] from = new int[3];
        int[] due = new int[3];
        for (int i = 0; i < 3; i++) {
            length[i] = run % 3 == 0 ? 12 : 1 + random.nextInt(12);
            from[i] = run % 2 == 0 ? 0 : random.nextInt(30);
            due[i] = run % 2 == 0 ? END : from[i] + length[i] + random.nextInt(28);
            x.job(i, 0, length[i], from[i], due[i], 0);
        }
        int want = least(green, room, length, from, due);
        c.due("run " + run + ": best()", x.best(), want);
        c.due("run " + run + ": trouble()", x.trouble(), want < 0 ? 4 : 0);
        c.due("run " + run + ": free() behind best()", x.free(0, from[0]), room);
    }

    private static int least(int[] green, int room, int[] length, int[] from, int[] due) {
        int least = -1;
        for (int a = from[0]; a + length[0] <= due[0]; a++) {
            for (int b = from[1]; b + length[1] <= due[1]; b++) {
                for (int d = from[2]; d + length[2] <= due[2]; d++) {
                    int[] at = {a, b, d};
                    int sum = sum(green, at, length);
                    if ((least < 0 || sum < least) && fit(at, length, room)) {
                        least = sum;
                    }
                }
            }
        }
        return least;
    }

    private static int sum(int[] green, int[] at, int[] length) {
        int sum = 0;
        for (int i = 0; i < at.length; i++) {
            for (int h = at[i]; h < at[i] + length[i]; h++) {
                sum += green[h];
            }
        }
        return sum;
    }

    private static boolean fit(int[] at, int[] length, int room) {
        for (int h = 0; h < END; h++) {
            int n = 0;
            for (int i = 0; i < at.length; i++) {
                n += h >= at[i] && h < at[i] + length[i] ? 1 : 0;
            }
            if (n > room) {
                return false;
            }
        }
        return true;
    }
}
