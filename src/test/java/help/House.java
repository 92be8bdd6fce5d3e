/** Houses from which tests begin, and what one looks like. */
final class House {
    /** What the 36 JOBS for which a dearest() house has ROOM cost, 27 of them away from HOME. */
    static final int DEAREST = 36 * 12 * 999 + 27 * 99 * 99;

    private House() {
    }

    /** With PLACES of these ROOMS. */
    static GreenHours of(int... rooms) {
        GreenHours x = new GreenHours();
        for (int room : rooms) {
            x.place(room);
        }
        return x;
    }

    /** With one PLACE, and with JOBS 0 WAITS, 1 BEGUN, 2 DONE, 3 LOST; NOW is 2. */
    static GreenHours ofAllStates() {
        GreenHours x = of(1);
        x.job(0, 0, 1, 20, 30, 0);
        x.job(0, 0, 3, 1, 4, 0);
        x.job(0, 0, 1, 0, 1, 0);
        x.job(0, 0, 1, 20, 30, 0);
        x.drop(3);
        x.pass(2);
        return x;
    }

    /** With PLACES of these ROOMS, and an OWNER whose DELAY is hours (1 .. 47); NOW is 1 more. */
    static GreenHours delayed(int owner, int hours, int... rooms) {
        GreenHours x = of(rooms);
        for (int p = 0; p < rooms.length; p++) {
            x.green(p, 0, hours - 1, 999);
        }
        x.job(owner, 0, 1, 0, hours + 1, 0);
        x.pass(hours + 1);
        return x;
    }

    /** With the most of all: 40 JOBS, of which all but 4 fill 4 PLACES up to HOUR 11. */
    static GreenHours dearest() {
        GreenHours x = of(9, 9, 9, 9);
        for (int p = 0; p < 4; p++) {
            x.green(p, 0, 299, 999);
            if (p > 0) {
                x.fare(0, p, 99);
            }
        }
        for (int i = 0; i < 40; i++) {
            x.job(0, 0, 12, 0, 12, 99);
        }
        return x;
    }

    static void passTo(GreenHours x, int hour) {
        for (int left = hour - x.count(6); left > 0; left -= 48) {
            x.pass(Math.min(48, left));
        }
    }

    /** What it answers to calls that change nothing but TROUBLE: a refused call leaves it so. */
    static String look(GreenHours x) {
        StringBuilder s = new StringBuilder("counts");
        for (int what = 0; what <= 6; what++) {
            s.append(' ').append(x.count(what));
        }
        for (int j = 0; j < x.count(1); j++) {
            lookAtJob(s.append("; JOB"), x, j);
        }
        for (int p = 0; p < x.count(0); p++) {
            s.append("; PLACE ").append(x.told(p, 0)).append(' ').append(x.told(p, 299)).append(' ')
                .append(x.free(p, x.count(6))).append(' ').append(x.free(p, 299));
        }
        s.append("; OWNERS");
        for (int o = 0; o <= 5; o++) {
            s.append(' ').append(x.delay(o)).append(' ').append(x.behind(o));
        }
        return s.append("; sums ").append(x.cost()).append(' ').append(x.paid()).append(' ')
            .append(x.atOnce()).append(' ').append(x.saved()).append(' ').append(x.worst())
            .toString();
    }

    private static void lookAtJob(StringBuilder s, GreenHours x, int j) {
        for (int what = 0; what <= 9; what++) {
            s.append(' ').append(x.about(j, what));
        }
        for (int what = 0; what <= 2; what++) {
            s.append(' ').append(x.laid(j, what));
        }
        s.append(' ').append(x.regret(j));
        for (int p = 0; p < x.count(0); p++) {
            s.append(' ').append(x.would(j, p, x.about(j, 7)));
        }
    }
}
