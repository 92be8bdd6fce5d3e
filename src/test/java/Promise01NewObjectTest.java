/** Promise 1: "No PLACES, no JOBS." */
public final class Promise01NewObjectTest {
    public static void main(String[] args) {
        Check c = new Check("Promise 1, a new object");
        c.test("no PLACES", Promise01NewObjectTest::noPlaces);
        c.test("no JOBS", Promise01NewObjectTest::noJobs);
        c.test("NOW is 0 at first", Promise01NewObjectTest::firstHour);
        c.test("nothing laid", Promise01NewObjectTest::nothingLaid);
        c.test("nothing came to anything", Promise01NewObjectTest::nothingCame);
        c.test("nothing refused", Promise01NewObjectTest::nothingRefused);
        c.test("HOURS go in an empty house", Promise01NewObjectTest::hoursGo);
        c.test("each object for itself", Promise01NewObjectTest::apart);
        c.end();
    }

    private static void noPlaces(Check c) {
        GreenHours x = new GreenHours();
        c.due("count(0)", x.count(0), 0);
        c.due("told(0, 0)", x.told(0, 0), -1);
        c.due("free(0, 0)", x.free(0, 0), -1);
        c.refused("fare(0, 1, 1)", x, x.fare(0, 1, 1), 1);
        c.refused("green(0, 0, 0, 0)", x, x.green(0, 0, 0, 0), 1);
        c.refused("job(0, 0, 1, 0, 1, 0)", x, x.job(0, 0, 1, 0, 1, 0), 1);
    }

    private static void noJobs(Check c) {
        GreenHours x = new GreenHours();
        for (int what = 1; what <= 5; what++) {
            c.due("count(" + what + ")", x.count(what), 0);
        }
        c.due("about(0, 0)", x.about(0, 0), -1);
        c.refused("drop(0)", x, x.drop(0), 1);
        c.refused("would(0, 0, 0)", x, x.would(0, 0, 0), 1);
    }

    private static void firstHour(Check c) {
        c.due("count(6)", new GreenHours().count(6), 0);
    }

    private static void nothingLaid(Check c) {
        GreenHours x = new GreenHours();
        c.due("cost()", x.cost(), -1);
        c.due("laid(0, 0)", x.laid(0, 0), -1);
        c.due("lay()", x.lay(), 0);
        c.due("best()", x.best(), 0);
    }

    private static void nothingCame(Check c) {
        GreenHours x = new GreenHours();
        c.due("paid()", x.paid(), 0);
        c.due("atOnce()", x.atOnce(), 0);
        c.due("saved()", x.saved(), 0);
        c.due("regret(0)", x.regret(0), -1);
        c.due("worst()", x.worst(), -2);
        for (int owner = 0; owner <= 5; owner++) {
            c.due("delay(" + owner + ")", x.delay(owner), 0);
            c.due("behind(" + owner + ")", x.behind(owner), 0);
        }
    }

    private static void nothingRefused(Check c) {
        c.due("trouble()", new GreenHours().trouble(), 0);
    }

    private static void hoursGo(Check c) {
        GreenHours x = new GreenHours();
        c.granted("pass(48)", x, x.pass(48), 0);
        c.due("count(6)", x.count(6), 48);
    }

    private static void apart(Check c) {
        GreenHours x = new GreenHours();
        GreenHours y = new GreenHours();
        x.place(3);
        x.job(0, 0, 1, 0, 9, 0);
        x.patience(1);
        x.pass(1);
        x.place(0);
        c.due("count(0) of the other", y.count(0), 0);
        c.due("count(1) of the other", y.count(1), 0);
        c.due("count(6) of the other", y.count(6), 0);
        c.due("trouble() of the other", y.trouble(), 0);
        c.due("count(0) of a third", new GreenHours().count(0), 0);
    }
}
