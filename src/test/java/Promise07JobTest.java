/** Promise 7: "A JOB: its number. NONE: 1 (HOME); 2 (also if it couldn't end by DUE); 3." */
public final class Promise07JobTest {
    public static void main(String[] args) {
        Check c = new Check("Promise 7, job");
        c.test("its number", Promise07JobTest::numbers);
        c.test("1: no such HOME", Promise07JobTest::noHome);
        c.test("OWNERS 0 .. 5: edges", Promise07JobTest::owners);
        c.test("OWNERS 0 .. 5: too small, too large", Promise07JobTest::ownersRefused);
        c.test("LENGTH 1 .. 12: edges", Promise07JobTest::lengths);
        c.test("LENGTH 1 .. 12: too small, too large", Promise07JobTest::lengthsRefused);
        c.test("DATA 0 .. 99: edges", Promise07JobTest::data);
        c.test("DATA 0 .. 99: too small, too large", Promise07JobTest::dataRefused);
        c.test("not ahead of NOW: edges", Promise07JobTest::fromNow);
        c.test("not ahead of NOW: too small", Promise07JobTest::fromRefused);
        c.test("DUE up to 300: the greatest", Promise07JobTest::dues);
        c.test("DUE up to 300: too large", Promise07JobTest::duesRefused);
        c.test("2: also if it couldn't end by DUE", Promise07JobTest::noEnd);
        c.test("numbers that wrap around", Promise07JobTest::wraps);
        c.test("JOBS 40: full", Promise07JobTest::full);
        c.test("JOBS 40: those DONE and LOST count", Promise07JobTest::fullOfEnded);
        c.test("1 stands ahead of 2, 2 ahead of 3", Promise07JobTest::codesInOrder);
        c.test("a refused one makes none", Promise07JobTest::refusedMakesNone);
        c.end();
    }

    private static void numbers(Check c) {
        GreenHours x = House.of(1);
        for (int i = 0; i < 3; i++) {
            c.granted("job()", x, x.job(0, 0, 1, 0, 9, 0), i);
            c.due("count(1)", x.count(1), i + 1);
            c.due("it WAITS", x.about(i, 0), 0);
        }
    }

    private static void noHome(Check c) {
        GreenHours x = new GreenHours();
        c.refused("without PLACES", x, x.job(0, 0, 1, 0, 5, 0), 1);
        x = House.of(1, 1);
        for (int p : new int[] {Check.LEAST, -1, 2, 4, Check.MOST}) {
            c.refused("HOME " + p, x, x.job(0, p, 1, 0, 5, 0), 1);
        }
        c.granted("the last HOME there is", x, x.job(0, 1, 1, 0, 5, 0), 0);
    }

    private static void owners(Check c) {
        GreenHours x = House.of(1);
        c.granted("OWNER 0", x, x.job(0, 0, 1, 0, 5, 0), 0);
        c.granted("OWNER 5", x, x.job(5, 0, 1, 0, 5, 0), 1);
        c.due("about(0, 4)", x.about(0, 4), 0);
        c.due("about(1, 4)", x.about(1, 4), 5);
    }

    private static void ownersRefused(Check c) {
        GreenHours x = House.of(1);
        for (int o : new int[] {Check.LEAST, -1, 6, Check.MOST}) {
            c.refused("OWNER " + o, x, x.job(o, 0, 1, 0, 5, 0), 2);
        }
    }

    private static void lengths(Check c) {
        GreenHours x = House.of(1);
        c.granted("LENGTH 1", x, x.job(0, 0, 1, 0, 50, 0), 0);
        c.granted("LENGTH 12", x, x.job(0, 0, 12, 0, 50, 0), 1);
        c.due("about(0, 6)", x.about(0, 6), 1);
        c.due("about(1, 6)", x.about(1, 6), 12);
    }

    private static void lengthsRefused(Check c) {
        GreenHours x = House.of(1);
        for (int n : new int[] {Check.LEAST, -1, 0, 13, Check.MOST}) {
            c.refused("LENGTH " + n, x, x.job(0, 0, n, 0, 50, 0), 2);
        }
    }

    private static void data(Check c) {
        GreenHours x = House.of(1);
        c.granted("DATA 0", x, x.job(0, 0, 1, 0, 5, 0), 0);
        c.granted("DATA 99", x, x.job(0, 0, 1, 0, 5, 99), 1);
        c.due("about(0, 9)", x.about(0, 9), 0);
        c.due("about(1, 9)", x.about(1, 9), 99);
    }

    private static void dataRefused(Check c) {
        GreenHours x = House.of(1);
        for (int d : new int[] {Check.LEAST, -1, 100, Check.MOST}) {
            c.refused("DATA " + d, x, x.job(0, 0, 1, 0, 5, d), 2);
        }
    }

    private static void fromNow(Check c) {
        GreenHours x = House.of(1);
        c.granted("from 0 when NOW is 0", x, x.job(0, 0, 1, 0, 5, 0), 0);
        x.pass(7);
        c.granted("from NOW on", x, x.job(0, 0, 1, 7, 20, 0), 1);
        c.granted("from NOW on, DUE at once", x, x.job(0, 0, 1, 7, 8, 0), 2);
        House.passTo(x, 299);
        c.granted("from 299 on when NOW is 299", x, x.job(0, 0, 1, 299, 300, 0), 3);
    }

    private static void fromRefused(Check c) {
        GreenHours x = House.of(1);
        for (int h : new int[] {Check.LEAST, -1}) {
            c.refused("from " + h + " when NOW is 0", x, x.job(0, 0, 1, h, 20, 0), 2);
        }
        x.pass(7);
        for (int h : new int[] {-1, 0, 6}) {
            c.refused("from " + h + " when NOW is 7", x, x.job(0, 0, 1, h, 20, 0), 2);
        }
    }

    private static void dues(Check c) {
        GreenHours x = House.of(1);
        c.granted("DUE 300", x, x.job(0, 0, 1, 0, 300, 0), 0);
        c.granted("the last HOUR alone", x, x.job(0, 0, 1, 299, 300, 0), 1);
        c.granted("the last 12 HOURS", x, x.job(0, 0, 12, 288, 300, 0), 2);
        c.due("about(0, 8)", x.about(0, 8), 300);
    }

    private static void duesRefused(Check c) {
        GreenHours x = House.of(1);
        for (int d : new int[] {301, 302, Check.MOST}) {
            c.refused("DUE " + d, x, x.job(0, 0, 1, 0, d, 0), 2);
            c.refused("from 299, DUE " + d, x, x.job(0, 0, 2, 299, d, 0), 2);
        }
    }

    private static void noEnd(Check c) {
        GreenHours x = House.of(1);
        c.granted("3 HOURS from 4 on by 7", x, x.job(0, 0, 3, 4, 7, 0), 0);
        c.refused("3 HOURS from 5 on by 7", x, x.job(0, 0, 3, 5, 7, 0), 2);
        c.refused("3 HOURS from 4 on by 6", x, x.job(0, 0, 3, 4, 6, 0), 2);
        c.refused("4 HOURS from 4 on by 7", x, x.job(0, 0, 4, 4, 7, 0), 2);
        c.refused("an HOUR from 7 on by 7", x, x.job(0, 0, 1, 7, 7, 0), 2);
        c.refused("an HOUR from 9 on by 7", x, x.job(0, 0, 1, 9, 7, 0), 2);
        c.refused("12 HOURS from 289 on by 300", x, x.job(0, 0, 12, 289, 300, 0), 2);
        for (int d : new int[] {Check.LEAST, -1, 0}) {
            c.refused("DUE " + d, x, x.job(0, 0, 1, 0, d, 0), 2);
        }
    }

    private static void wraps(Check c) {
        GreenHours x = House.of(1);
        c.refused("from and DUE the greatest", x, x.job(0, 0, 1, Check.MOST, Check.MOST, 0), 2);
        c.refused("from the greatest, DUE 300", x, x.job(0, 0, 12, Check.MOST, 300, 0), 2);
        c.refused("from the greatest less 11", x, x.job(0, 0, 12, Check.MOST - 11, 300, 0), 2);
        c.refused("from the greatest, DUE the least", x,
            x.job(0, 0, 1, Check.MOST, Check.LEAST, 0), 2);
        c.refused("from and DUE the least", x, x.job(0, 0, 1, Check.LEAST, Check.LEAST, 0), 2);
        c.refused("from 0, DUE the least", x, x.job(0, 0, 12, 0, Check.LEAST, 0), 2);
        c.refused("from 0, DUE the least and 11", x, x.job(0, 0, 12, 0, Check.LEAST + 11, 0), 2);
        c.refused("LENGTH the greatest from 1 on", x, x.job(0, 0, Check.MOST, 1, 300, 0), 2);
        c.refused("LENGTH the least", x, x.job(0, 0, Check.LEAST, 0, 300, 0), 2);
        c.due("count(1)", x.count(1), 0);
    }

    private static GreenHours withForty() {
        GreenHours x = House.of(9);
        for (int i = 0; i < 40; i++) {
            x.job(i % 6, 0, 1, 0, 30, 0);
        }
        return x;
    }

    private static void full(Check c) {
        GreenHours x = House.of(9);
        for (int i = 0; i < 40; i++) {
            c.granted("JOB " + i, x, x.job(0, 0, 1, 0, 100, 0), i);
        }
        c.refused("JOB 40", x, x.job(0, 0, 1, 0, 100, 0), 3);
        c.due("count(1)", x.count(1), 40);
        c.due("about(40, 0)", x.about(40, 0), -1);
        c.due("about(39, 0)", x.about(39, 0), 0);
    }

    private static void fullOfEnded(Check c) {
        GreenHours x = withForty();
        x.drop(3);
        c.refused("JOB 40 behind one LOST", x, x.job(0, 0, 1, 0, 100, 0), 3);
        x.pass(30);
        c.due("DONE", x.count(4), 39);
        c.refused("JOB 40 when none WAITS", x, x.job(0, 0, 1, 30, 100, 0), 3);
    }

    private static void codesInOrder(Check c) {
        GreenHours x = withForty();
        c.refused("no HOME, a wrong number, full", x, x.job(6, 1, 0, -1, 301, 100), 1);
        c.refused("no HOME, full", x, x.job(0, 1, 1, 0, 9, 0), 1);
        c.refused("a wrong OWNER, full", x, x.job(6, 0, 1, 0, 9, 0), 2);
        c.refused("a wrong LENGTH, full", x, x.job(0, 0, 0, 0, 9, 0), 2);
        c.refused("no end by DUE, full", x, x.job(0, 0, 3, 0, 2, 0), 2);
        c.refused("a wrong DATA, full", x, x.job(0, 0, 1, 0, 9, 100), 2);
        x = House.of(1);
        c.refused("no HOME, a wrong OWNER", x, x.job(6, 1, 1, 0, 9, 0), 1);
        c.refused("no HOME, no end by DUE", x, x.job(0, 1, 3, 0, 2, 0), 1);
    }

    private static void refusedMakesNone(Check c) {
        GreenHours x = House.of(1);
        x.job(0, 0, 1, 0, 9, 0);
        String before = House.look(x);
        x.job(0, 1, 1, 0, 9, 0);
        x.job(6, 0, 1, 0, 9, 0);
        x.job(0, 0, 3, 0, 2, 0);
        c.same("the house", House.look(x), before);
        c.granted("the next number", x, x.job(0, 0, 1, 0, 9, 0), 1);
    }
}
