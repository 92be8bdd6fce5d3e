/** Promises 1 to 6: a new object, place, fare, green, told, patience. */
public final class PlacesTest {
    private static final int LEAST = Integer.MIN_VALUE;
    private static final int MOST = Integer.MAX_VALUE;

    public static void main(String[] args) {
        Check c = new Check();
        newObject(c);
        places(c);
        fares(c);
        faresRefused(c);
        greens(c);
        greensRefused(c);
        greensOfPastHours(c);
        tolds(c);
        patiences(c);
        c.end("PlacesTest");
    }

    private static void newObject(Check c) {
        GreenHours x = new GreenHours();
        for (int what = 0; what <= 6; what++) {
            c.due("new: count(" + what + ")", x.count(what), 0);
        }
        c.due("new: trouble()", x.trouble(), 0);
        c.due("new: cost()", x.cost(), -1);
        c.due("new: best()", x.best(), 0);
        c.due("new: paid()", x.paid(), 0);
        c.due("new: atOnce()", x.atOnce(), 0);
        c.due("new: saved()", x.saved(), 0);
        c.due("new: worst()", x.worst(), -2);
        c.due("new: told(0, 0)", x.told(0, 0), -1);
        c.due("new: free(0, 0)", x.free(0, 0), -1);
        c.due("new: about(0, 0)", x.about(0, 0), -1);
        c.due("new: laid(0, 0)", x.laid(0, 0), -1);
        c.due("new: regret(0)", x.regret(0), -1);
        c.due("new: pass(1)", x.pass(1), 0);
        for (int owner = 0; owner <= 5; owner++) {
            c.due("new: delay(" + owner + ")", x.delay(owner), 0);
            c.due("new: behind(" + owner + ")", x.behind(owner), 0);
        }
        x.place(3);
        c.due("another new: count(0)", new GreenHours().count(0), 0);
    }

    private static void places(Check c) {
        GreenHours x = new GreenHours();
        int[] wrong = {LEAST, -1, 0, 10, MOST};
        for (int room : wrong) {
            c.refused("place(" + room + ")", x, x.place(room), 2);
        }
        c.due("count(0) behind refused ones", x.count(0), 0);
        c.granted("place(1)", x, x.place(1), 0);
        c.granted("place(9)", x, x.place(9), 1);
        c.granted("place(4)", x, x.place(4), 2);
        c.granted("place(1) again", x, x.place(1), 3);
        c.refused("a fifth place(1)", x, x.place(1), 3);
        c.refused("a fifth place(10)", x, x.place(10), 2);
        c.due("count(0) of four", x.count(0), 4);
        c.due("free(0, 0)", x.free(0, 0), 1);
        c.due("free(1, 299)", x.free(1, 299), 9);
        c.due("told(3, 299)", x.told(3, 299), 500);
    }

    private static void fares(Check c) {
        GreenHours x = new GreenHours();
        x.place(1);
        x.place(1);
        x.place(1);
        x.job(0, 0, 1, 0, 10, 10);
        x.job(0, 1, 1, 0, 10, 10);
        c.due("a FARE until told", x.would(0, 1, 0), 510);
        c.due("no FARE at HOME", x.would(0, 0, 0), 500);
        c.granted("fare(0, 1, 7)", x, x.fare(0, 1, 7));
        c.due("the FARE there", x.would(0, 1, 0), 570);
        c.due("the FARE back", x.would(1, 0, 0), 570);
        c.due("another FARE", x.would(0, 2, 0), 510);
        c.granted("fare(1, 0, 99)", x, x.fare(1, 0, 99));
        c.due("the FARE told from the other side", x.would(0, 1, 0), 1490);
        c.granted("fare(0, 1, 0)", x, x.fare(0, 1, 0));
        c.due("a FARE of 0", x.would(0, 1, 0), 500);
        x.place(1);
        c.due("FARE to a new PLACE", x.would(0, 3, 0), 510);
        c.due("FARES stay when a PLACE comes", x.would(0, 1, 0), 500);
    }

    private static void faresRefused(Check c) {
        GreenHours x = new GreenHours();
        x.place(1);
        x.place(1);
        x.job(0, 0, 1, 0, 10, 10);
        int[] none = {LEAST, -1, 2, 4, MOST};
        for (int p : none) {
            c.refused("fare(0, " + p + ", 5)", x, x.fare(0, p, 5), 1);
            c.refused("fare(" + p + ", 0, 5)", x, x.fare(p, 0, 5), 1);
            c.refused("fare(" + p + ", 0, 100)", x, x.fare(p, 0, 100), 1);
        }
        c.refused("fare(1, 1, 5)", x, x.fare(1, 1, 5), 1);
        c.refused("fare(1, 1, -1)", x, x.fare(1, 1, -1), 1);
        int[] wrong = {LEAST, -1, 100, MOST};
        for (int v : wrong) {
            c.refused("fare(0, 1, " + v + ")", x, x.fare(0, 1, v), 2);
        }
        c.due("the FARE behind refused ones", x.would(0, 1, 0), 510);
        c.due("HOME behind refused ones", x.would(0, 0, 0), 500);
    }

    private static void greens(Check c) {
        GreenHours x = new GreenHours();
        x.place(1);
        x.place(1);
        c.granted("green(0, 2, 4, 7)", x, x.green(0, 2, 4, 7));
        c.due("told(0, 1)", x.told(0, 1), 500);
        c.due("told(0, 2)", x.told(0, 2), 7);
        c.due("told(0, 4)", x.told(0, 4), 7);
        c.due("told(0, 5)", x.told(0, 5), 500);
        c.due("told(1, 3)", x.told(1, 3), 500);
        c.granted("green(1, 3, 3, 0)", x, x.green(1, 3, 3, 0));
        c.due("told(1, 3) told", x.told(1, 3), 0);
        c.granted("green(1, 0, 299, 999)", x, x.green(1, 0, 299, 999));
        c.due("told(1, 0)", x.told(1, 0), 999);
        c.due("told(1, 3) told anew", x.told(1, 3), 999);
        c.due("told(1, 299)", x.told(1, 299), 999);
    }

    private static void greensRefused(Check c) {
        GreenHours x = new GreenHours();
        c.refused("green of no PLACE", x, x.green(0, 0, 0, 1), 1);
        x.place(1);
        c.refused("green(1, ..)", x, x.green(1, 0, 0, 1), 1);
        c.refused("green(-1, ..)", x, x.green(-1, 0, 0, 1), 1);
        c.refused("green of no PLACE and a wrong number", x, x.green(1, 0, 300, 1000), 1);
        c.refused("green up to 300", x, x.green(0, 0, 300, 1), 2);
        c.refused("green up to the greatest", x, x.green(0, 0, MOST, 1), 2);
        c.refused("green from -1 on", x, x.green(0, -1, 3, 1), 2);
        c.refused("green from the least on", x, x.green(0, LEAST, 3, 1), 2);
        c.refused("green from 300 on", x, x.green(0, 300, 300, 1), 2);
        c.refused("green up to one ahead", x, x.green(0, 3, 2, 1), 2);
        c.refused("green of -1", x, x.green(0, 0, 3, -1), 2);
        c.refused("green of 1000", x, x.green(0, 0, 3, 1000), 2);
        for (int h = 0; h <= 299; h++) {
            c.due("told(0, " + h + ") behind refused ones", x.told(0, h), 500);
        }
    }

    private static void greensOfPastHours(Check c) {
        GreenHours x = new GreenHours();
        x.place(1);
        x.green(0, 0, 9, 30);
        x.pass(4);
        c.refused("green from a past HOUR on", x, x.green(0, 3, 9, 1), 2);
        c.refused("green of past HOURS", x, x.green(0, 0, 3, 1), 2);
        c.granted("green from NOW on", x, x.green(0, 4, 4, 1));
        c.due("told(0, 3), TRUE", x.told(0, 3), 30);
        c.due("told(0, 4), FORETOLD", x.told(0, 4), 1);
        c.due("told(0, 5), FORETOLD", x.told(0, 5), 30);
        x.place(1);
        c.due("a past HOUR of a new PLACE", x.told(1, 0), 500);
    }

    private static void tolds(Check c) {
        GreenHours x = new GreenHours();
        x.place(1);
        c.refused("fare, for its trouble", x, x.fare(0, 0, 0), 1);
        int[] noPlace = {LEAST, -1, 1, 4, MOST};
        for (int p : noPlace) {
            c.due("told(" + p + ", 0)", x.told(p, 0), -1);
        }
        int[] noHour = {LEAST, -1, 300, MOST};
        for (int h : noHour) {
            c.due("told(0, " + h + ")", x.told(0, h), -1);
        }
        c.due("trouble() is not told's", x.trouble(), 1);
    }

    private static void patiences(Check c) {
        GreenHours x = new GreenHours();
        x.place(2);
        int[] wrong = {LEAST, -1, 0, 501, MOST};
        for (int v : wrong) {
            c.refused("patience(" + v + ")", x, x.patience(v), 2);
        }
        x.green(0, 0, 23, 900);
        x.green(0, 24, 24, 100);
        x.green(0, 25, 25, 10);
        x.job(3, 0, 1, 0, 25, 0);
        x.job(4, 0, 1, 0, 26, 0);
        x.pass(26);
        c.due("delay(3) at 24", x.delay(3), 24);
        c.due("24 is no more than 24 at first", x.behind(3), 0);
        c.due("delay(4) at 25", x.delay(4), 25);
        c.due("25 is more than 24 at first", x.behind(4), 1);
        c.granted("patience(23)", x, x.patience(23));
        c.due("24 is more than 23", x.behind(3), 1);
        c.granted("patience(500)", x, x.patience(500));
        c.due("24 is less than 500", x.behind(3), 0);
        c.granted("patience(1)", x, x.patience(1));
        c.due("24 is more than 1", x.behind(3), 1);
        c.refused("patience(0) again", x, x.patience(0), 2);
        c.due("PATIENCE behind a refused one", x.behind(3), 1);
    }
}
