/** Promise 17: "Whether an OWNER is BEHIND: 1, 0; NONE." */
public final class Promise17BehindTest {
    public static void main(String[] args) {
        Check c = new Check("Promise 17, behind");
        c.test("0 without JOBS", Promise17BehindTest::withoutJobs);
        c.test("DELAY as great as PATIENCE: 0", Promise17BehindTest::asGreat);
        c.test("DELAY of 1 more than PATIENCE: 1", Promise17BehindTest::oneMore);
        c.test("each OWNER for itself", Promise17BehindTest::apart);
        c.test("OWNERS 0 .. 5: the first and the last", Promise17BehindTest::edges);
        c.test("OWNERS 0 .. 5: too small, too large", Promise17BehindTest::noOwner);
        c.test("it leaves TROUBLE", Promise17BehindTest::leavesTrouble);
        c.end();
    }

    private static void withoutJobs(Check c) {
        GreenHours x = new GreenHours();
        x.patience(1);
        for (int o = 0; o <= 5; o++) {
            c.due("behind(" + o + ")", x.behind(o), 0);
        }
    }

    private static void asGreat(Check c) {
        GreenHours x = House.delayed(2, 8, 1);
        x.patience(8);
        c.due("behind(2)", x.behind(2), 0);
        c.due("behind(2) with 24 at first", House.delayed(2, 24, 1).behind(2), 0);
    }

    private static void oneMore(Check c) {
        GreenHours x = House.delayed(2, 8, 1);
        x.patience(7);
        c.due("behind(2)", x.behind(2), 1);
        c.due("behind(2) with 24 at first", House.delayed(2, 25, 1).behind(2), 1);
    }

    private static void apart(Check c) {
        GreenHours x = House.delayed(2, 8, 1);
        x.patience(1);
        for (int o = 0; o <= 5; o++) {
            c.due("behind(" + o + ")", x.behind(o), o == 2 ? 1 : 0);
        }
    }

    private static void edges(Check c) {
        for (int o : new int[] {0, 5}) {
            GreenHours x = House.delayed(o, 2, 1);
            x.patience(1);
            c.due("behind(" + o + ")", x.behind(o), 1);
        }
    }

    private static void noOwner(Check c) {
        GreenHours x = House.delayed(5, 2, 1);
        x.patience(1);
        for (int o : new int[] {Check.LEAST, -2, -1, 6, 7, Check.MOST}) {
            c.due("behind(" + o + ")", x.behind(o), -1);
        }
    }

    private static void leavesTrouble(Check c) {
        GreenHours x = House.of(1);
        c.refused("place(0)", x, x.place(0), 2);
        x.behind(0);
        x.behind(6);
        c.due("trouble()", x.trouble(), 2);
    }
}
