/** Promises 11 to 17: the stack, its rules and bands, and what is asked about it. */
final class StackTest {
    public static void main(String[] args) {
        promise11AddSieve();
        promise12RemoveSieve();
        promise11And12EndTheAnalysis();
        promise13SetRules();
        promise14SetBand();
        promise15Count();
        promise16Tray();
        promise17On();
        Due.close();
    }

    private static void apertures(SieveBench x, int... wanted) {
        Due.is("number of sieves", wanted.length, x.count(0));
        for (int tray = 0; tray < wanted.length; tray++) {
            Due.is("aperture of " + tray, wanted[tray], x.tray(tray, 0));
        }
        Due.is("the pan", 0, x.tray(wanted.length, 0));
        Due.is("below the pan", -1, x.tray(wanted.length + 1, 0));
    }

    private static void promise11AddSieve() {
        SieveBench x = new SieveBench();
        Due.is("0", -1, x.addSieve(0));
        Due.is("10", -1, x.addSieve(10));
        Due.is("lowest", -1, x.addSieve(Integer.MIN_VALUE));
        Due.is("4", 0, x.addSieve(4));
        Due.is("6 comes above", 0, x.addSieve(6));
        Due.is("3 comes below", 2, x.addSieve(3));
        Due.is("5 comes between", 1, x.addSieve(5));
        apertures(x, 6, 5, 4, 3);
        Due.is("there is 4", -2, x.addSieve(4));
        Due.is("1", 4, x.addSieve(1));
        Due.is("9", 0, x.addSieve(9));
        apertures(x, 9, 6, 5, 4, 3, 1);
        Due.is("no room", -3, x.addSieve(7));
        Due.is("state before room", -2, x.addSieve(9));
        Due.is("argument before room", -1, x.addSieve(10));
        apertures(x, 9, 6, 5, 4, 3, 1);
        Due.is("saved", 6, x.count(9));
        Due.is("undone", 5, x.undo());
        apertures(x, 6, 5, 4, 3, 1);
    }

    private static void promise12RemoveSieve() {
        SieveBench x = new SieveBench();
        Due.is("0", -1, x.removeSieve(0));
        Due.is("10", -1, x.removeSieve(10));
        Due.is("no such", -2, x.removeSieve(5));
        Due.is("nothing saved", 0, x.count(9));
        for (int aperture = 1; aperture <= 6; aperture++) {
            x.addSieve(aperture);
        }
        Due.is("in the middle", 5, x.removeSieve(4));
        apertures(x, 6, 5, 3, 2, 1);
        Due.is("the highest", 4, x.removeSieve(6));
        Due.is("the lowest", 3, x.removeSieve(1));
        apertures(x, 5, 3, 2);
        Due.is("gone", -2, x.removeSieve(6));
        Due.is("room again", 0, x.addSieve(9));
        apertures(x, 9, 5, 3, 2);
        x.removeSieve(9);
        x.removeSieve(5);
        x.removeSieve(3);
        Due.is("the last", 0, x.removeSieve(2));
        apertures(x);
        Due.is("none left", -2, x.removeSieve(2));
    }

    private static SieveBench shaken() {
        SieveBench x = new SieveBench();
        Due.load(x, "0:1000,2:1000,4:1000");
        x.addSieve(4);
        x.addSieve(2);
        x.charge();
        x.shake(3);
        x.collect(1);
        x.setMass(1, 50);
        return x;
    }

    private static void promise11And12EndTheAnalysis() {
        SieveBench x = shaken();
        Due.is("added", 1, x.addSieve(3));
        nothingLeft(x);
        x = shaken();
        Due.is("removed", 1, x.removeSieve(2));
        nothingLeft(x);
        x = shaken();
        String before = Due.picture(x);
        Due.is("an error", -2, x.addSieve(4));
        Due.is("another error", -2, x.removeSieve(3));
        Due.holds("errors end nothing", before.equals(Due.picture(x)));
        x.removeSieve(4);
        x.undo();
        Due.holds("undo brings the analysis back", before.equals(Due.picture(x)));
    }

    private static void nothingLeft(SieveBench x) {
        Due.is("no analysis", 0, x.count(5));
        Due.is("no minutes", 0, x.count(6));
        Due.is("no flow", 0, x.count(7));
        Due.is("no loss", -2, x.loss());
        Due.is("no shaking", -2, x.shake(1));
        for (int tray = 0; tray <= x.count(0); tray++) {
            Due.is("nothing lies", 0, x.tray(tray, 1));
            Due.is("nothing stuck", 0, x.tray(tray, 2));
            Due.is("nothing collected", 0, x.tray(tray, 3));
        }
        Due.is("the sample stays", 50, x.mass(-1));
        x.setMass(0, 100);
        Due.is("the next begins anew", 150, x.charge());
        Due.is("with all of it", 0, x.loss());
        Due.is("on the highest", 150, x.tray(0, 1));
    }

    private static void promise13SetRules() {
        SieveBench x = new SieveBench();
        Due.is("the same", 0, x.setRules(500, 20, 2, 5));
        Due.is("is a success", 1, x.count(9));
        Due.is("c", 1, x.setRules(501, 20, 2, 5));
        Due.is("b", 1, x.setRules(501, 21, 2, 5));
        Due.is("e", 1, x.setRules(501, 21, 3, 5));
        Due.is("g", 1, x.setRules(501, 21, 3, 6));
        int[] set = {501, 21, 3, 6};
        for (int what = 1; what <= 4; what++) {
            Due.is("rule " + what, set[what - 1], x.count(what));
        }
        Due.is("lowest", 1, x.setRules(1, 0, 0, 0));
        Due.is("highest", 1, x.setRules(9999, 200, 100, 100));
        int[][] wrong = {{0, 0, 0, 0}, {10000, 0, 0, 0}, {1, -1, 0, 0}, {1, 201, 0, 0},
            {1, 0, -1, 0}, {1, 0, 101, 0}, {1, 0, 0, -1}, {1, 0, 0, 101}};
        for (int[] w : wrong) {
            Due.is("wrong rules", -1, x.setRules(w[0], w[1], w[2], w[3]));
        }
        Due.is("c stays", 9999, x.count(1));
        Due.is("undo", 5, x.undo());
        Due.is("c before", 1, x.count(1));
        SieveBench y = shaken();
        y.setRules(1, 200, 100, 0);
        Due.is("the analysis goes on", 1, y.count(5));
        Due.is("with the new capacity", 100, y.tray(0, 4));
    }

    private static void promise14SetBand() {
        SieveBench x = new SieveBench();
        Due.is("lowest changes", 1, x.setBand(1, 1, 1000));
        Due.is("highest changes", 1, x.setBand(1, 1, 999));
        Due.is("the same", 0, x.setBand(1, 1, 999));
        Due.is("each saves", 3, x.count(9));
        Due.is("both ends alike", 1, x.setBand(9, 1000, 1000));
        Due.is("both 0", 1, x.setBand(9, 0, 0));
        Due.is("aperture 0", -1, x.setBand(0, 0, 0));
        Due.is("aperture 10", -1, x.setBand(10, 0, 0));
        Due.is("lowest -1", -1, x.setBand(1, -1, 0));
        Due.is("lowest 1001", -1, x.setBand(1, 1001, 1001));
        Due.is("highest 1001", -1, x.setBand(1, 0, 1001));
        Due.is("crossed", -1, x.setBand(1, 5, 4));
        Due.is("errors save nothing", 5, x.count(9));
        Due.is("errors change nothing", 0, x.setBand(1, 1, 999));
        Due.is("apart from other apertures", 0, x.setBand(2, 0, 1000));
    }

    private static void promise15Count() {
        SieveBench x = shaken();
        x.setRules(400, 30, 4, 50);
        Due.type(x, "12345");
        int[] counts = {2, 400, 30, 4, 50, 1, 3};
        for (int what = 0; what < counts.length; what++) {
            Due.is("count " + what, counts[what], x.count(what));
        }
        Due.is("text", 5, x.count(8));
        Due.is("saved", 6, x.count(9));
        Due.is("-1", -1, x.count(-1));
        Due.is("10", -1, x.count(10));
        x.shake(2);
        Due.is("minutes add up", 5, x.count(6));
        int first = x.shake(1);
        Due.is("the flow of the latest minute", first, x.count(7));
        x.setMass(0, 9);
        x.charge();
        Due.is("minutes of this analysis", 0, x.count(6));
        Due.is("no minute yet", 0, x.count(7));
    }

    private static void promise16Tray() {
        SieveBench x = new SieveBench();
        Due.load(x, "3:1000,4:1000");
        x.addSieve(4);
        x.charge();
        x.shake(1);
        int[] sieve = {4, 1680, 20, 0, 960};
        int[] pan = {0, 300, 0, 0, 1000};
        for (int what = 0; what <= 4; what++) {
            Due.is("sieve " + what, sieve[what], x.tray(0, what));
            Due.is("pan " + what, pan[what], x.tray(1, what));
        }
        x.collect(1);
        Due.is("collected", 300, x.tray(1, 3));
        x.setRules(3, 0, 0, 0);
        Due.is("openness is at least 100", 100, x.tray(0, 4));
        x.setRules(22, 0, 0, 0);
        Due.is("just below", 100, x.tray(0, 4));
        x.setRules(23, 0, 0, 0);
        Due.is("20000 / 23 is 869", 131, x.tray(0, 4));
        Due.is("tray -1", -1, x.tray(-1, 0));
        Due.is("tray 2", -1, x.tray(2, 0));
        Due.is("what -1", -1, x.tray(0, -1));
        Due.is("what 5", -1, x.tray(0, 5));
    }

    private static void promise17On() {
        SieveBench x = new SieveBench();
        Due.is("the pan alone", 0, x.on(0, 0));
        Due.is("no tray", -1, x.on(1, 0));
        Due.load(x, "0:10,3:1000,9:5");
        x.addSieve(4);
        x.charge();
        Due.is("class 0", 10, x.on(0, 0));
        Due.is("class 9", 5, x.on(0, 9));
        Due.is("the pan", 0, x.on(1, 3));
        x.shake(1);
        Due.is("fallen", 300, x.on(1, 3));
        Due.is("left", 700, x.on(0, 3));
        Due.is("tray -1", -1, x.on(-1, 0));
        Due.is("tray 2", -1, x.on(2, 0));
        Due.is("size -1", -1, x.on(0, -1));
        Due.is("size 10", -1, x.on(0, 10));
        Due.is("most", -1, x.on(Integer.MAX_VALUE, Integer.MAX_VALUE));
    }
}
