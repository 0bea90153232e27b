/** Promises 18 to 29: the analysis and its forecasts. */
final class AnalysisTest {
    public static void main(String[] args) {
        promise18Charge();
        promise19ShakeByHand();
        promise19ShakeEdges();
        promise20Collect();
        promise21Brush();
        promise22Loss();
        promise23IsGood();
        promise24Passing();
        promise25Misses();
        promise26Modulus();
        promise27TruePassing();
        promise28MinutesTo();
        promise29DustIn();
        Due.close();
    }

    private static void promise18Charge() {
        SieveBench x = new SieveBench();
        x.setMass(0, 10);
        Due.is("no sieves", -2, x.charge());
        x.setMass(0, 0);
        x.addSieve(3);
        Due.is("no mass", -2, x.charge());
        Due.is("nothing saved", 3, x.count(9));
        Due.load(x, "0:400,3:1000,9:9999");
        x.addSieve(5);
        Due.is("total", 11399, x.charge());
        Due.is("the sample is gone", 0, x.mass(-1));
        Due.is("it lies above", 11399, x.tray(0, 1));
        Due.is("only there", 0, x.tray(1, 1));
        Due.is("an analysis", 1, x.count(5));
        x.shake(5);
        x.collect(0);
        Due.is("no sample", -2, x.charge());
        Due.is("the old analysis goes on", 5, x.count(6));
        x.setMass(3, 7);
        Due.is("the next", 7, x.charge());
        Due.is("nothing else lies there", 7, x.tray(0, 1));
        for (int tray = 0; tray <= 2; tray++) {
            Due.is("nothing stuck", 0, x.tray(tray, 2));
            Due.is("nothing collected", 0, x.tray(tray, 3));
        }
        Due.is("below is nothing", 0, x.tray(1, 1) + x.tray(2, 1));
        Due.is("no loss", 0, x.loss());
        Due.is("no minutes", 0, x.count(6) + x.count(7));
    }

    private static void promise19ShakeByHand() {
        SieveBench x = Due.charged("0:1000,1:1000,2:1000,3:1000,4:1000,5:1000", 4);
        Due.is("first minute", 2700, x.shake(1));
        int[] first = {100, 100, 400, 700, 980, 1000};
        int[] firstPan = {899, 900, 600, 300, 0, 0};
        for (int size = 0; size < first.length; size++) {
            Due.is("first on sieve " + size, first[size], x.on(0, size));
            Due.is("first on pan " + size, firstPan[size], x.on(1, size));
        }
        Due.is("stuck", 20, x.tray(0, 2));
        Due.is("dust", 1, x.loss());
        // The openness is 960 now: 201 of 700, 230 of 400, 86 of 100, 86 of 100.
        Due.is("second minute", 603, x.shake(1));
        int[] second = {14, 14, 170, 499, 961, 1000};
        for (int size = 0; size < second.length; size++) {
            Due.is("second on sieve " + size, second[size], x.on(0, size));
        }
        Due.is("stuck more", 39, x.tray(0, 2));
        Due.is("dust again", 2, x.loss());
        Due.is("flow", 603, x.count(7));
        x.undo();
        x.undo();
        Due.is("both at once", 3303, x.shake(2));
        Due.is("flow of the second alone", 603, x.count(7));
        Due.is("minutes", 2, x.count(6));
        // 17 leaves 7, of which 7 * 960 * 600 / 1000000 = 4 fall; rounding between would make it 3.
        SieveBench y = Due.charged("2:17,4:1000", 4);
        y.shake(2);
        Due.is("rounded once", 3, y.on(0, 2));
    }

    private static void promise19ShakeEdges() {
        SieveBench x = Due.charged("0:10", 5, 4, 3);
        x.setRules(500, 0, 0, 5);
        Due.is("from the lowest sieve up", 9, x.shake(1));
        Due.is("one tray a minute", 9, x.on(1, 0));
        Due.is("1 and 8", 9, x.shake(1));
        Due.is("at least 1", 0, x.on(0, 0));
        Due.is("next tray", 8, x.on(2, 0));
        Due.is("rest", 2, x.on(1, 0));
        Due.is("no minutes", -1, x.shake(0));
        Due.is("201 minutes", -1, x.shake(201));
        Due.is("negative", -1, x.shake(Integer.MIN_VALUE));
        Due.is("200 minutes", 12, x.shake(200));
        Due.is("all is in the pan", 10, x.on(3, 0));
        SieveBench none = new SieveBench();
        Due.is("no analysis", -2, none.shake(1));
        Due.is("argument first", -1, none.shake(0));
        SieveBench most = Due.charged("0:9999,8:9999,9:9999", 9);
        Due.is("more than an int holds between", 8999 + 2999, most.shake(1));
        Due.is("stuck", 199, most.tray(0, 2));
        SieveBench blind = Due.charged("3:1000,4:1000", 4);
        blind.setRules(1, 200, 0, 0);
        blind.shake(1);
        Due.is("stuck after falling", 700, blind.on(0, 3));
        Due.is("least openness", 21, blind.shake(1));
        SieveBench dusty = Due.charged("0:1000", 1);
        dusty.setRules(500, 0, 100, 0);
        dusty.shake(1);
        Due.is("dust of what fell in the minute", 270, dusty.on(1, 0));
        Due.is("ease 300 for the next finer", 700, dusty.on(0, 0));
        SieveBench coarse = Due.charged("0:1000,5:1000", 5);
        coarse.setRules(500, 0, 100, 0);
        coarse.shake(1);
        Due.is("dust from the pan alone", 100, coarse.on(0, 0));
        Due.is("of the 900", 810, coarse.on(1, 0));
        // The upper sieve's grains of class 2 come to the lower one after its turn.
        SieveBench late = Due.charged("2:1000", 4, 2);
        late.setRules(500, 200, 0, 0);
        late.shake(1);
        Due.is("not stuck yet", 0, late.tray(1, 2));
        late.shake(1);
        Due.is("stuck in the next minute", 120, late.tray(1, 2));
    }

    private static void promise20Collect() {
        SieveBench x = Due.charged("0:1000,4:1000", 4);
        x.shake(1);
        int before = x.count(9);
        Due.is("tray -1", -1, x.collect(-1));
        Due.is("tray 2", -1, x.collect(2));
        Due.is("nothing saved", before, x.count(9));
        Due.is("the sieve", 1080, x.collect(0));
        Due.is("collected", 1080, x.tray(0, 3));
        Due.is("empty", 0, x.tray(0, 1));
        Due.is("stuck stays", 20, x.tray(0, 2));
        Due.is("the pan", 899, x.collect(1));
        Due.is("nothing more", 0, x.collect(1));
        Due.is("which is a success", 899, x.tray(1, 3));
        SieveBench twice = Due.charged("0:1000", 4);
        twice.collect(0);
        twice.undo();
        twice.shake(1);
        twice.collect(1);
        twice.shake(1);
        Due.is("again", 90, twice.collect(1));
        Due.is("adds up", 989, twice.tray(1, 3));
        SieveBench none = new SieveBench();
        Due.is("no analysis", -2, none.collect(0));
        Due.is("no tray first", -1, none.collect(1));
    }

    private static void promise21Brush() {
        SieveBench x = Due.charged("4:1000", 4);
        x.shake(1);
        x.collect(0);
        Due.is("the pan", -1, x.brush(1, 1));
        Due.is("-1", -1, x.brush(-1, 1));
        Due.is("saved 2", -1, x.brush(0, 2));
        Due.is("saved -1", -1, x.brush(0, -1));
        Due.is("saved", 20, x.brush(0, 1));
        Due.is("collected", 1000, x.tray(0, 3));
        Due.is("nothing stuck", 0, x.tray(0, 2));
        Due.is("open again", 1000, x.tray(0, 4));
        Due.is("no loss", 0, x.loss());
        Due.is("nothing more", 0, x.brush(0, 0));
        x.undo();
        x.undo();
        Due.is("lost", 20, x.brush(0, 0));
        Due.is("not collected", 980, x.tray(0, 3));
        Due.is("a loss", 20, x.loss());
        SieveBench none = new SieveBench();
        none.addSieve(4);
        Due.is("no analysis", -2, none.brush(0, 0));
        Due.is("argument first", -1, none.brush(0, 2));
        Due.is("no sieve first", -1, none.brush(1, 0));
    }

    private static void promise22Loss() {
        SieveBench none = new SieveBench();
        none.setMass(0, 10);
        Due.is("no analysis", -2, none.loss());
        SieveBench x = Due.charged("0:1000,4:1000", 4);
        x.setRules(500, 100, 100, 0);
        Due.is("none yet", 0, x.loss());
        x.shake(1);
        Due.is("dust", 90, x.loss());
        x.collect(0);
        x.collect(1);
        Due.is("collected is not lost", 90, x.loss());
        x.brush(0, 0);
        Due.is("stuck was lost", 190, x.loss());
        x.setMass(0, 9999);
        Due.is("the sample is apart", 190, x.loss());
    }

    private static void promise23IsGood() {
        SieveBench none = new SieveBench();
        Due.is("no analysis", -2, none.isGood());
        SieveBench x = Due.charged("4:1000", 4);
        Due.is("nothing lost", 1, x.isGood());
        x.setRules(500, 5, 0, 5);
        x.shake(1);
        x.brush(0, 0);
        Due.is("5 of 1000", 1, x.isGood());
        x.setRules(500, 5, 0, 4);
        Due.is("G is 4", 0, x.isGood());
        x.setRules(500, 5, 0, 0);
        Due.is("G is 0", 0, x.isGood());
        x.setRules(500, 5, 0, 100);
        Due.is("G is 100", 1, x.isGood());
    }

    /** 40 on sieve 6, 7 on sieve 4, 49 on sieve 3 and 100 in the pan, all collected. */
    private static SieveBench collected() {
        SieveBench x = Due.charged("6:40,4:7,3:49,0:100", 6, 4, 3);
        x.setRules(500, 0, 0, 0);
        x.shake(200);
        for (int tray = 0; tray <= 3; tray++) {
            x.collect(tray);
        }
        return x;
    }

    private static void promise24Passing() {
        SieveBench x = collected();
        Due.is("156 of 196", 795, x.passing(0));
        Due.is("149 of 196", 760, x.passing(1));
        Due.is("100 of 196", 510, x.passing(2));
        Due.is("the pan", -1, x.passing(3));
        Due.is("-1", -1, x.passing(-1));
        SieveBench y = Due.charged("0:10,5:10", 5);
        Due.is("nothing collected", -2, y.passing(0));
        y.collect(1);
        Due.is("an empty pan", -2, y.passing(0));
        y.collect(0);
        Due.is("nothing below", 0, y.passing(0));
        y.removeSieve(5);
        Due.is("no sieve first", -1, y.passing(0));
        y.addSieve(5);
        Due.is("no analysis", -2, y.passing(0));
    }

    private static void promise25Misses() {
        SieveBench x = collected();
        Due.is("no bands", 0, x.misses());
        x.setBand(6, 795, 795);
        x.setBand(4, 0, 760);
        x.setBand(3, 510, 1000);
        Due.is("ends included", 0, x.misses());
        x.setBand(6, 796, 1000);
        Due.is("one below", 1, x.misses());
        x.setBand(4, 0, 759);
        Due.is("one above", 2, x.misses());
        x.setBand(3, 0, 0);
        x.setBand(5, 0, 0);
        Due.is("an aperture without a sieve does not count", 3, x.misses());
        SieveBench y = Due.charged("0:10", 5);
        y.setBand(5, 1000, 1000);
        Due.is("nothing collected", -2, y.misses());
        y.collect(0);
        Due.is("0 is not 1000", 1, y.misses());
        Due.is("no analysis", -2, new SieveBench().misses());
    }

    private static void promise26Modulus() {
        // 205 + 240 + 490 = 935, divided once.
        Due.is("sum of the retained", 93, collected().modulus());
        SieveBench y = Due.charged("0:10", 5);
        Due.is("nothing collected", -2, y.modulus());
        y.collect(0);
        Due.is("all retained", 100, y.modulus());
        Due.is("no analysis", -2, new SieveBench().modulus());
        SieveBench almost = Due.charged("0:1,9:999", 5);
        almost.shake(1);
        almost.collect(0);
        almost.collect(1);
        Due.is("999 is rounded down", 99, almost.modulus());
        SieveBench six = Due.charged("9:7", 9, 8, 7, 6, 5, 4);
        six.collect(0);
        Due.is("six sieves", 600, six.modulus());
    }

    private static void promise27TruePassing() {
        SieveBench x = new SieveBench();
        Due.is("no mass", -2, x.truePassing(1));
        Due.is("argument first", -1, x.truePassing(0));
        Due.load(x, "0:100,3:501,5:7,9:40");
        Due.is("aperture 1", 154, x.truePassing(1));
        Due.is("aperture 3", 154, x.truePassing(3));
        Due.is("aperture 4", 927, x.truePassing(4));
        Due.is("aperture 9", 938, x.truePassing(9));
        Due.is("aperture 10", -1, x.truePassing(10));
        Due.load(x, "0:9999,1:9999,2:9999,3:9999,4:9999");
        Due.is("large", 400, x.truePassing(2));
        Due.is("all", 1000, x.truePassing(5));
        x.addSieve(5);
        x.charge();
        Due.is("the sample as it is now", -2, x.truePassing(5));
    }

    private static void promise28MinutesTo() {
        SieveBench none = new SieveBench();
        Due.is("no analysis", -2, none.minutesTo(1));
        Due.is("argument first", -1, none.minutesTo(0));
        SieveBench x = Due.charged("0:1000,1:1000,2:1000,3:1000,4:1000,5:1000", 4);
        Due.is("0", -1, x.minutesTo(0));
        Due.is("10000", -1, x.minutesTo(10000));
        Due.is("2700 is less than 2701", 1, x.minutesTo(2701));
        Due.is("2700 is not less than 2700", 2, x.minutesTo(2700));
        Due.is("604", 2, x.minutesTo(604));
        Due.is("603", 3, x.minutesTo(603));
        Due.is("at least 1", 1, x.minutesTo(9999));
        String before = Due.picture(x);
        int saved = x.count(9);
        int needed = x.minutesTo(1);
        Due.holds("a forecast changes nothing", before.equals(Due.picture(x)));
        Due.is("nor saves", saved, x.count(9));
        x.shake(needed - 1);
        Due.holds("the minute before flows", x.count(7) >= 1);
        Due.is("after it", 1, x.minutesTo(1));
        x.shake(1);
        Due.is("the last does not", 0, x.count(7));
        Due.is("at least 1 after rest too", 1, x.minutesTo(1));
        // Found by trying all stacks: no sample seems to flow for 500 minutes, so NONE is not met here.
        SieveBench slow = Due.charged("0:9999,1:9999,2:9999,3:9999,4:9999,5:9999,6:9999,7:9999,8:9999,9:9999",
                6, 5, 4, 3, 2, 1);
        slow.setRules(1, 1, 0, 0);
        Due.is("the slowest stack", 281, slow.minutesTo(1));
        slow.shake(200);
        Due.is("81 more", 81, slow.minutesTo(1));
        slow.shake(80);
        Due.holds("still flows", slow.count(7) >= 1);
        slow.shake(1);
        Due.is("rests", 0, slow.count(7));
    }

    private static void promise29DustIn() {
        SieveBench none = new SieveBench();
        Due.is("no analysis", -2, none.dustIn(1));
        Due.is("argument first", -1, none.dustIn(0));
        SieveBench x = Due.charged("0:1000,4:1000", 4);
        x.setRules(500, 20, 100, 5);
        Due.is("0", -1, x.dustIn(0));
        Due.is("501", -1, x.dustIn(501));
        String before = Due.picture(x);
        Due.is("90 of 900", 90, x.dustIn(1));
        // 86 of 100 fall at 960: 896 in the pan, 89 are lost.
        Due.is("in two", 179, x.dustIn(2));
        // The pan ends with 9: a tenth of it is nothing.
        Due.is("in 500", 991, x.dustIn(500));
        Due.holds("a forecast changes nothing", before.equals(Due.picture(x)));
        x.shake(1);
        x.brush(0, 0);
        Due.is("only the dust of further minutes", 90, x.dustIn(1));
        x.shake(200);
        Due.is("no more", 0, x.dustIn(1));
    }
}
