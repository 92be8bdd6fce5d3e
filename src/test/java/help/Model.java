import java.util.ArrayList;
import java.util.List;

/**
 * The document told once more in the slowest and plainest way: every LAYING is tried, nothing is
 * kept that can be counted anew. GreenHours is compared with it on random runs.
 */
final class Model {
    static final class Job {
        int owner;
        int home;
        int length;
        int from;
        int due;
        int data;
        int state;
        int place = -1;
        int hour = -1;
        int paid;
    }

    static final class Laying {
        final int place;
        final int hour;
        final int cost;

        Laying(int place, int hour, int cost) {
            this.place = place;
            this.hour = hour;
            this.cost = cost;
        }
    }

    final List<Integer> rooms = new ArrayList<>();
    final List<int[]> greens = new ArrayList<>();
    final int[][] fares = new int[4][4];
    final List<Job> jobs = new ArrayList<>();
    List<Laying> latest = null;
    int patience = 24;
    int now = 0;
    int trouble = 0;

    Model() {
        for (int[] row : fares) {
            java.util.Arrays.fill(row, 1);
        }
    }

    private int refuse(int why) {
        trouble = why;
        return -1;
    }

    private boolean isPlace(int p) {
        return p >= 0 && p < rooms.size();
    }

    private boolean isJob(int j) {
        return j >= 0 && j < jobs.size();
    }

    int place(int room) {
        if (room < 1 || room > 9) {
            return refuse(2);
        }
        if (rooms.size() == 4) {
            return refuse(3);
        }
        trouble = 0;
        rooms.add(room);
        int[] g = new int[300];
        java.util.Arrays.fill(g, 500);
        greens.add(g);
        return rooms.size() - 1;
    }

    boolean fare(int one, int other, int v) {
        if (!isPlace(one) || !isPlace(other) || one == other) {
            return refuse(1) == 0;
        }
        if (v < 0 || v > 99) {
            return refuse(2) == 0;
        }
        trouble = 0;
        fares[one][other] = v;
        fares[other][one] = v;
        return true;
    }

    boolean green(int place, int from, int to, int v) {
        if (!isPlace(place)) {
            return refuse(1) == 0;
        }
        if (from < now || to > 299 || from > to || v < 0 || v > 999) {
            return refuse(2) == 0;
        }
        trouble = 0;
        for (int h = from; h <= to; h++) {
            greens.get(place)[h] = v;
        }
        return true;
    }

    int told(int place, int hour) {
        return isPlace(place) && hour >= 0 && hour <= 299 ? greens.get(place)[hour] : -1;
    }

    boolean patience(int hours) {
        if (hours < 1 || hours > 500) {
            return refuse(2) == 0;
        }
        trouble = 0;
        patience = hours;
        return true;
    }

    int job(int owner, int home, int length, int from, int due, int data) {
        if (!isPlace(home)) {
            return refuse(1);
        }
        if (owner < 0 || owner > 5 || length < 1 || length > 12 || from < now || from > 299
                || due < 0 || due > 300 || data < 0 || data > 99 || from + length > due) {
            return refuse(2);
        }
        if (jobs.size() == 40) {
            return refuse(3);
        }
        trouble = 0;
        Job j = new Job();
        j.owner = owner;
        j.home = home;
        j.length = length;
        j.from = from;
        j.due = due;
        j.data = data;
        jobs.add(j);
        return jobs.size() - 1;
    }

    boolean drop(int job) {
        if (!isJob(job)) {
            return refuse(1) == 0;
        }
        if (jobs.get(job).state != 0) {
            return refuse(4) == 0;
        }
        trouble = 0;
        jobs.get(job).state = 3;
        return true;
    }

    int about(int job, int what) {
        if (!isJob(job) || what < 0 || what > 9) {
            return -1;
        }
        Job j = jobs.get(job);
        return new int[] {j.state, j.place, j.hour, j.paid, j.owner, j.home, j.length, j.from, j.due,
            j.data}[what];
    }

    private int costOf(Job j, int place, int hour) {
        int sum = place == j.home ? 0 : j.data * fares[j.home][place];
        for (int i = 0; i < j.length; i++) {
            sum += greens.get(place)[hour + i];
        }
        return sum;
    }

    /** How many of the JOBS BEGUN and of the LAYINGS are at a PLACE in an HOUR. */
    private int used(int place, int hour, List<Laying> ahead) {
        int n = 0;
        for (Job j : jobs) {
            if (j.state == 1 && j.place == place && hour >= j.hour && hour < j.hour + j.length) {
                n++;
            }
        }
        for (int i = 0; i < ahead.size(); i++) {
            Laying l = ahead.get(i);
            if (l != null && l.place == place && hour >= l.hour
                    && hour < l.hour + jobs.get(i).length) {
                n++;
            }
        }
        return n;
    }

    private boolean fits(Job j, int place, int hour, List<Laying> ahead) {
        for (int h = hour; h < hour + j.length; h++) {
            if (used(place, h, ahead) >= rooms.get(place)) {
                return false;
            }
        }
        return true;
    }

    private List<Laying> none() {
        List<Laying> list = new ArrayList<>();
        for (int i = 0; i < jobs.size(); i++) {
            list.add(null);
        }
        return list;
    }

    private List<Laying> makeLaid() {
        List<Integer> order = new ArrayList<>();
        for (int i = 0; i < jobs.size(); i++) {
            if (jobs.get(i).state == 0) {
                order.add(i);
            }
        }
        order.sort((a, b) -> {
            Job x = jobs.get(a);
            Job y = jobs.get(b);
            if (behind(x.owner) != behind(y.owner)) {
                return behind(y.owner) - behind(x.owner);
            }
            return x.due != y.due ? x.due - y.due : a - b;
        });
        List<Laying> list = none();
        for (int i : order) {
            Job j = jobs.get(i);
            Laying pick = null;
            for (int p = 0; p < rooms.size(); p++) {
                for (int h = Math.max(now, j.from); h + j.length <= j.due; h++) {
                    if (fits(j, p, h, list)) {
                        Laying l = new Laying(p, h, costOf(j, p, h));
                        if (pick == null || better(l, pick, behind(j.owner) == 1)) {
                            pick = l;
                        }
                    }
                }
            }
            list.set(i, pick);
        }
        return list;
    }

    private static boolean better(Laying a, Laying b, boolean soonest) {
        if (soonest && a.hour != b.hour) {
            return a.hour < b.hour;
        }
        if (a.cost != b.cost) {
            return a.cost < b.cost;
        }
        return a.hour != b.hour ? a.hour < b.hour : a.place < b.place;
    }

    int lay() {
        latest = makeLaid();
        int n = 0;
        for (Laying l : latest) {
            n += l == null ? 0 : 1;
        }
        return n;
    }

    int laid(int job, int what) {
        if (latest == null || job < 0 || job >= latest.size() || latest.get(job) == null) {
            return -1;
        }
        Laying l = latest.get(job);
        return what == 0 ? l.place : what == 1 ? l.hour : what == 2 ? l.cost : -1;
    }

    int cost() {
        if (latest == null) {
            return -1;
        }
        int sum = 0;
        for (Laying l : latest) {
            sum += l == null ? 0 : l.cost;
        }
        return sum;
    }

    int best() {
        if (count(2) > 3) {
            return refuse(4);
        }
        int least = tryAll(0, 0, none());
        if (least < 0) {
            return refuse(4);
        }
        trouble = 0;
        return least;
    }

    /** Every way to lay the JOBS that WAIT from number i on; below 0 if there is none. */
    private int tryAll(int i, int sum, List<Laying> ahead) {
        if (i == jobs.size()) {
            return sum;
        }
        Job j = jobs.get(i);
        if (j.state != 0) {
            return tryAll(i + 1, sum, ahead);
        }
        int least = -1;
        for (int p = 0; p < rooms.size(); p++) {
            for (int h = Math.max(now, j.from); h + j.length <= j.due; h++) {
                if (!fits(j, p, h, ahead)) {
                    continue;
                }
                int c = costOf(j, p, h);
                ahead.set(i, new Laying(p, h, c));
                int all = tryAll(i + 1, sum + c, ahead);
                ahead.set(i, null);
                if (all >= 0 && (least < 0 || all < least)) {
                    least = all;
                }
            }
        }
        return least;
    }

    int free(int place, int hour) {
        if (!isPlace(place) || hour < now || hour > 299) {
            return -1;
        }
        return rooms.get(place) - used(place, hour, none());
    }

    int pass(int hours) {
        if (hours < 1 || hours > 48) {
            return refuse(2);
        }
        if (now + hours > 299) {
            return refuse(3);
        }
        trouble = 0;
        int done = 0;
        for (int i = 0; i < hours; i++) {
            done += hour();
        }
        return done;
    }

    private int hour() {
        List<Laying> list = makeLaid();
        for (int i = 0; i < jobs.size(); i++) {
            Laying l = list.get(i);
            if (l != null && l.hour == now) {
                jobs.get(i).state = 1;
                jobs.get(i).place = l.place;
                jobs.get(i).hour = now;
            }
        }
        int done = 0;
        for (Job j : jobs) {
            if (j.state == 0 && now + 1 + j.length > j.due) {
                j.state = 3;
            }
            if (j.state == 1) {
                j.paid += greens.get(j.place)[now];
                if (j.hour == now && j.place != j.home) {
                    j.paid += j.data * fares[j.home][j.place];
                }
                if (j.hour + j.length == now + 1) {
                    j.state = 2;
                    done++;
                }
            }
        }
        now++;
        return done;
    }

    int delay(int owner) {
        if (owner < 0 || owner > 5) {
            return -1;
        }
        int sum = 0;
        for (Job j : jobs) {
            if (j.owner == owner && (j.state == 1 || j.state == 2)) {
                sum += j.hour - j.from;
            }
        }
        return sum;
    }

    int behind(int owner) {
        return owner < 0 || owner > 5 ? -1 : delay(owner) > patience ? 1 : 0;
    }

    int paid() {
        int sum = 0;
        for (Job j : jobs) {
            sum += j.paid;
        }
        return sum;
    }

    int atOnce() {
        int sum = 0;
        for (Job j : jobs) {
            sum += j.state == 2 ? costOf(j, j.home, j.from) : 0;
        }
        return sum;
    }

    int saved() {
        int sum = atOnce();
        for (Job j : jobs) {
            sum -= j.state == 2 ? j.paid : 0;
        }
        return sum;
    }

    int regret(int job) {
        if (!isJob(job) || jobs.get(job).state != 2) {
            return -1;
        }
        Job j = jobs.get(job);
        int least = Integer.MAX_VALUE;
        for (int p = 0; p < rooms.size(); p++) {
            for (int h = j.from; h + j.length <= j.due && h + j.length <= now; h++) {
                least = Math.min(least, costOf(j, p, h));
            }
        }
        return j.paid - least;
    }

    int worst() {
        int worst = -2;
        for (int i = 0; i < jobs.size(); i++) {
            if (jobs.get(i).state == 2 && (worst < 0 || regret(i) > regret(worst))) {
                worst = i;
            }
        }
        return worst;
    }

    int would(int job, int place, int hour) {
        if (!isJob(job) || !isPlace(place)) {
            return refuse(1);
        }
        trouble = 0;
        Job j = jobs.get(job);
        if (hour < j.from || (long) hour + j.length > j.due) {
            return -2;
        }
        return costOf(j, place, hour);
    }

    int count(int what) {
        if (what == 0) {
            return rooms.size();
        }
        if (what == 1) {
            return jobs.size();
        }
        if (what == 6) {
            return now;
        }
        if (what < 0 || what > 6) {
            return -1;
        }
        int n = 0;
        for (Job j : jobs) {
            n += j.state == what - 2 ? 1 : 0;
        }
        return n;
    }
}
