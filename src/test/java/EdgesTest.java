/** The sentences of the document that name an edge, from "Classes and samples" to "Undo". */
final class EdgesTest {
    private static final String FULL_SAMPLE =
        "0:9999,1:9999,2:9999,3:9999,4:9999,5:9999,6:9999,7:9999,8:9999,9:9999";

    public static void main(String[] args) {
        massesAndTheirSum();
        oddUnitsByTurns();
        turnsBeginAnewInEachSplitting();
        reserveWithoutUpperBound();
        combineUpToTheBrim();
        splitToTheNumberItself();
        classesBelowTheAperturePass();
        sievesStandByAperture();
        opennessBounds();
        opennessWhenTheTurnComes();
        easeByDistance();
        fallOfAtLeastOne();
        stuckRoundedDown();
        dustRoundedDown();
        flowIsWhatFell();
        minutesWithoutBound();
        secondAnalysisBeginsAnew();
        goodToTheLastUnit();
        passingFromEndToEnd();
        modulusFromEndToEnd();
        bandsEndsIncluded();
        truePassingFromEndToEnd();
        firstMinuteBelowTheFlow();
        dustOfAllMinutes();
        seventhSavedState();
        Due.close();
    }

    private static SieveBench charged(String sample, int... apertures) {
        SieveBench x = new SieveBench();
        Due.load(x, sample);
        for (int aperture : apertures) {
            x.addSieve(aperture);
        }
        x.charge();
        return x;
    }

    private static void masses(String what, SieveBench x, int... wanted) {
        for (int size = 0; size < wanted.length; size++) {
            Due.is(what + ", class " + size, wanted[size], x.mass(size));
        }
    }

    // ---- classes and samples

    private static void massesAndTheirSum() {
        for (int size = 0; size <= 9; size++) {
            SieveBench x = new SieveBench();
            for (int mass : new int[] {0, 1, 9998, 9999}) {
                int before = x.mass(size);
                Due.is("previous", before, x.setMass(size, mass));
                Due.is("set", mass, x.mass(size));
                Due.is("the others stay 0", mass, x.mass(-1));
            }
        }
        String text = FULL_SAMPLE + " ".repeat(80 - FULL_SAMPLE.length());
        SieveBench full = new SieveBench();
        Due.type(full, text);
        Due.is("80 characters", 80, full.count(8));
        Due.is("ten times 9999", 99990, full.load());
        Due.is("sum", 99990, full.mass(-1));
    }

    private static void oddUnitsByTurns() {
        SieveBench x = new SieveBench();
        Due.load(x, FULL_SAMPLE);
        Due.is("five turns each", 49995, x.split(0));
        masses("left", x, 5000, 4999, 5000, 4999, 5000, 4999, 5000, 4999, 5000, 4999);
        for (int size = 0; size <= 9; size++) {
            Due.is("right, class " + size, 9999 - x.mass(size), x.reserve(size));
        }
        // Even masses take no turn: 1 left, 4 right, 7 left, 9 right.
        Due.load(x, "0:2,1:1,2:8,3:2,4:3,6:6,7:1,9:5");
        Due.is("without turns of even ones", 14, x.split(0));
        masses("left by turns", x, 1, 1, 4, 1, 1, 0, 3, 1, 0, 2);
    }

    private static void turnsBeginAnewInEachSplitting() {
        SieveBench x = new SieveBench();
        x.setMass(3, 5);
        Due.is("5, 3, 2, 1", 3, x.splitTo(1));
        x.setMass(3, 5);
        Due.is("5 leaves 3", 3, x.split(0));
        Due.is("3 leaves 2", 2, x.split(0));
        SieveBench y = new SieveBench();
        y.setMass(3, 5);
        Due.is("the right one has 2", 2, y.split(1));
        Due.is("then 1", 1, y.split(1));
        Due.is("then 0", 0, y.split(1));
        SieveBench all = new SieveBench();
        Due.load(all, "0:1,1:1,2:1");
        Due.is("one splitting to 2", 1, all.splitTo(2));
        masses("the first and the third go left", all, 1, 0, 1);
        Due.is("one more to 1", 1, all.splitTo(1));
        masses("the first goes left", all, 1, 0, 0);
    }

    private static void reserveWithoutUpperBound() {
        SieveBench x = new SieveBench();
        for (int round = 1; round <= 24; round++) {
            Due.load(x, "0:9999,9:9998");
            x.split(1);
            Due.is("class 0", 5000 * round, x.reserve(0));
            Due.is("class 9", 4999 * round, x.reserve(9));
            Due.is("sum", 9999 * round, x.reserve(-1));
        }
    }

    private static void combineUpToTheBrim() {
        for (int size = 0; size <= 9; size++) {
            SieveBench x = new SieveBench();
            x.setMass(size, 9999);
            x.split(1);
            x.setMass(size, 9999);
            x.split(1);
            Due.is("10000 in the reserve", 10000, x.reserve(size));
            x.setMass(size, 0);
            x.setMass((size + 1) % 10, 9999);
            Due.is("too much for an empty class", -3, x.combine());
            Due.is("which stays empty", 0, x.mass(size));
            Due.is("and the reserve full", 10000, x.reserve(-1));
        }
        SieveBench all = new SieveBench();
        Due.load(all, FULL_SAMPLE);
        all.split(0);
        Due.is("all classes to the brim", 99990, all.combine());
        Due.is("again, without a reserve", 99990, all.combine());
        Due.is("reserve", 0, all.reserve(-1));
        all.split(0);
        all.setMass(9, 5000);
        Due.is("10000 of the last class alone is too much", -3, all.combine());
        all.setMass(9, 4999);
        Due.is("9999 is not", 99990, all.combine());
    }

    private static void splitToTheNumberItself() {
        SieveBench x = new SieveBench();
        Due.load(x, "0:9999");
        Due.is("9999 is not greater than 9999", 0, x.splitTo(9999));
        Due.is("nothing went", 0, x.reserve(-1));
        x.setMass(9, 1);
        Due.is("10000 is", 1, x.splitTo(9999));
        Due.is("left part", 5000, x.mass(-1));
        x = new SieveBench();
        x.setMass(4, 1);
        Due.is("1 is not greater than 1", 0, x.splitTo(1));
        x.setMass(4, 2);
        Due.is("2 is", 1, x.splitTo(1));
        Due.is("1 stays", 1, x.mass(4));
        Due.is("1 goes", 1, x.reserve(4));
        Due.load(x, FULL_SAMPLE);
        int before = x.reserve(-1) + 99990;
        // 99990 49995 24998 12499 6250 3125 1563 782 391 196 98 49 25 13 7 4 2 1: the left part is never the smaller.
        Due.is("of the fullest sample", 17, x.splitTo(1));
        Due.is("down to 1", 1, x.mass(-1));
        Due.is("the finest stays", 1, x.mass(0));
        Due.is("the rest is kept", before - 1, x.reserve(-1));
    }

    // ---- stack

    private static void classesBelowTheAperturePass() {
        for (int aperture = 1; aperture <= 9; aperture++) {
            SieveBench x = new SieveBench();
            for (int size = 0; size <= 9; size++) {
                x.setMass(size, 1000);
            }
            x.setRules(500, 200, 0, 0);
            x.addSieve(aperture);
            x.charge();
            x.shake(1);
            for (int size = 0; size <= 9; size++) {
                int falls = size >= aperture ? 0 : size == aperture - 1 ? 300 : size == aperture - 2 ? 600 : 900;
                String what = "aperture " + aperture + ", class " + size;
                Due.is(what + " falls", falls, x.on(1, size));
                Due.is(what + " stays", 1000 - falls - (size == aperture ? 200 : 0), x.on(0, size));
            }
            Due.is("only its own class gets stuck", 200, x.tray(0, 2));
        }
    }

    private static void sievesStandByAperture() {
        int[][] orders = {{9, 8, 7, 6, 5, 4}, {4, 5, 6, 7, 8, 9}, {1, 9, 2, 8, 3, 7}, {5, 1, 9, 4, 6, 2}};
        for (int[] order : orders) {
            SieveBench x = new SieveBench();
            for (int placed = 0; placed < order.length; placed++) {
                int above = 0;
                for (int before = 0; before < placed; before++) {
                    above += order[before] > order[placed] ? 1 : 0;
                }
                Due.is("its number", above, x.addSieve(order[placed]));
                for (int tray = 0; tray <= placed; tray++) {
                    Due.holds("smaller than above", tray == 0 || x.tray(tray, 0) < x.tray(tray - 1, 0));
                }
                Due.is("the pan is the last", 0, x.tray(placed + 1, 0));
            }
            for (int left = order.length - 1; left >= 0; left--) {
                Due.is("one less", left, x.removeSieve(order[left]));
                Due.is("the pan moves up", 0, x.tray(left, 0));
                Due.is("nothing below it", -1, x.tray(left + 1, 0));
            }
        }
    }

    private static void opennessBounds() {
        SieveBench x = charged("5:5000", 5);
        x.setRules(9999, 200, 0, 0);
        Due.is("nothing stuck", 1000, x.tray(0, 4));
        x.shake(1);
        Due.is("stuck", 1000, x.tray(0, 2));
        int[][] due = {{9999, 900}, {1112, 101}, {1111, 100}, {1110, 100}, {1000, 100}, {999, 100}, {1, 100},
            {2000, 500}, {1999, 500}, {2001, 501}, {3000, 667}};
        for (int[] row : due) {
            x.setRules(row[0], 0, 0, 0);
            Due.is("openness for C = " + row[0], row[1], x.tray(0, 4));
        }
        SieveBench one = charged("5:5", 5);
        one.setRules(9999, 200, 0, 0);
        one.shake(1);
        Due.is("one grain", 1, one.tray(0, 2));
        Due.is("of 9999 blinds by nothing", 1000, one.tray(0, 4));
        one.setRules(1000, 0, 0, 0);
        Due.is("of 1000 by 1", 999, one.tray(0, 4));
        one.setRules(1001, 0, 0, 0);
        Due.is("of 1001 by nothing", 1000, one.tray(0, 4));
        SieveBench most = charged("9:9999", 9);
        most.setRules(1, 200, 0, 0);
        most.shake(200);
        Due.is("9995 stuck grains, all but 4", 9995, most.tray(0, 2));
        Due.is("of a capacity of 1", 100, most.tray(0, 4));
    }

    private static void opennessWhenTheTurnComes() {
        SieveBench x = charged("2:1000,5:5", 5);
        x.setRules(1, 200, 0, 0);
        Due.is("open in the minute that blinds it", 900, x.shake(1));
        Due.is("stuck", 1, x.tray(0, 2));
        Due.is("a tenth of 90 in the next", 9, x.shake(1));
        x.brush(0, 0);
        Due.is("brushed, it is open at once: 819 of 91 thousandths", 81, x.shake(1));
        // A collected tray keeps its stuck grains.
        SieveBench y = charged("5:5", 5);
        y.setRules(1, 200, 0, 0);
        y.shake(1);
        y.collect(0);
        Due.is("collecting does not brush", 1, y.tray(0, 2));
        Due.is("nor open", 100, y.tray(0, 4));
    }

    private static void easeByDistance() {
        SieveBench x = charged("0:1000", 1);
        Due.is("aperture 1 lets class 0 through hardly", 300, x.shake(1));
        x = charged("0:1000", 2);
        Due.is("aperture 2", 600, x.shake(1));
        x = charged("0:1000", 3);
        Due.is("aperture 3", 900, x.shake(1));
        x = charged("0:1000", 9);
        Due.is("aperture 9", 900, x.shake(1));
        x = charged("9:1000", 9);
        Due.is("class 9 falls never", 0, x.shake(200));
        Due.is("it stays or gets stuck", 1000, x.tray(0, 1) + x.tray(0, 2));
    }

    private static void fallOfAtLeastOne() {
        int[][] due = {{0, 0}, {1, 1}, {33, 1}, {34, 1}, {66, 1}, {67, 2}, {99, 2}, {100, 3}};
        for (int[] row : due) {
            SieveBench x = charged("4:" + row[0] + ",5:5", 5);
            x.setRules(1, 200, 0, 0);
            SieveBench blind = blinded(row[0]);
            Due.is("openness", 100, blind.tray(0, 4));
            Due.is(row[0] + " at ease 300 and openness 100", row[1], blind.shake(1));
            Due.is(row[0] + " at openness 1000", row[0] == 0 ? 0 : Math.max(1, row[0] * 3 / 10), x.shake(1));
        }
        SieveBench last = charged("0:2,1:1,2:1", 9, 8);
        Due.is("one of each", 3, last.shake(1));
        Due.is("one of each, on two trays", 1 + 3, last.shake(1));
    }

    /** A sieve of aperture 5 with an openness of 100, and a mass of class 4 on it. */
    private static SieveBench blinded(int mass) {
        // The sieve is open in the minute that blinds it: more must lie there at first.
        for (int first = mass; first <= 9999; first++) {
            int left = first - (first == 0 ? 0 : Math.max(1, first * 3 / 10));
            if (left == mass) {
                SieveBench x = charged("4:" + first + ",5:5", 5);
                x.setRules(1, 200, 0, 0);
                x.shake(1);
                Due.is("left above", mass, x.on(0, 4));
                return x;
            }
        }
        return new SieveBench();
    }

    private static void stuckRoundedDown() {
        int[][] due = {{1, 200, 0}, {4, 200, 0}, {5, 200, 1}, {9, 200, 1}, {10, 200, 2}, {9999, 200, 1999},
            {9999, 0, 0}, {9999, 1, 9}, {999, 1, 0}, {1000, 1, 1}, {49, 20, 0}, {50, 20, 1}};
        for (int[] row : due) {
            SieveBench x = charged("7:" + row[0], 7);
            x.setRules(500, row[1], 0, 0);
            Due.is("nothing falls", 0, x.shake(1));
            Due.is("stuck of " + row[0] + " at B = " + row[1], row[2], x.tray(0, 2));
            Due.is("left", row[0] - row[2], x.on(0, 7));
            Due.is("no loss", 0, x.loss());
        }
    }

    private static void dustRoundedDown() {
        int[][] due = {{9, 100, 0}, {10, 100, 1}, {19, 100, 1}, {999, 1, 0}, {1000, 1, 1}, {9000, 0, 0},
            {499, 2, 0}, {500, 2, 1}};
        for (int[] row : due) {
            SieveBench x = charged("0:" + row[0] + ",1:9999", 1);
            x.setRules(500, 0, 0, 0);
            x.shake(200);
            Due.is("all in the pan", row[0], x.on(1, 0));
            x.setRules(500, 0, row[1], 0);
            x.shake(1);
            Due.is("dust of " + row[0] + " at E = " + row[1], row[2], x.loss());
            Due.is("left", row[0] - row[2], x.on(1, 0));
        }
        SieveBench other = charged("0:1,1:9999,2:9999", 9);
        other.setRules(500, 0, 100, 0);
        other.shake(200);
        Due.is("other classes in the pan are no dust", 19998, other.on(1, 1) + other.on(1, 2));
        Due.is("no loss", 0, other.loss());
        other.collect(1);
        SieveBench safe = charged("0:1000", 9);
        safe.setRules(500, 0, 0, 0);
        safe.shake(200);
        safe.collect(1);
        safe.setRules(500, 0, 100, 0);
        safe.shake(200);
        Due.is("what is collected is no dust", 0, safe.loss());
    }

    // ---- analysis

    private static void flowIsWhatFell() {
        SieveBench x = charged("0:1000,4:1000", 4);
        x.setRules(500, 200, 100, 0);
        Due.is("neither stuck nor dust", 900, x.shake(1));
        Due.is("flow", 900, x.count(7));
        SieveBench two = charged("0:100", 9, 8);
        Due.is("first", 90, two.shake(1));
        Due.is("a grain counts on each tray that it leaves", 9 + 81, two.shake(1));
        two.collect(0);
        two.collect(1);
        Due.is("nothing is left to fall", 0, two.shake(1));
        Due.is("the flow of a minute of rest", 0, two.count(7));
        Due.is("three minutes", 3, two.count(6));
        two.collect(2);
        Due.is("collecting takes no minute", 3, two.count(6));
    }

    private static void minutesWithoutBound() {
        SieveBench x = charged("0:1", 1);
        for (int round = 1; round <= 60; round++) {
            x.shake(200);
            Due.is("minutes", 200 * round, x.count(6));
        }
        x.undo();
        Due.is("undone", 200 * 59, x.count(6));
        Due.is("1 minute", 0, x.shake(1));
        Due.is("added", 200 * 59 + 1, x.count(6));
    }

    private static void secondAnalysisBeginsAnew() {
        SieveBench x = charged("0:1000,4:1000", 4);
        x.setRules(10, 200, 100, 7);
        x.shake(2);
        x.collect(1);
        x.brush(0, 0);
        x.shake(1);
        Due.holds("stuck", x.tray(0, 2) > 0);
        Due.holds("lost", x.loss() > 0);
        x.setMass(3, 5);
        Due.is("total", 5, x.charge());
        int[] sieve = {4, 5, 0, 0, 1000};
        int[] pan = {0, 0, 0, 0, 1000};
        for (int what = 0; what <= 4; what++) {
            Due.is("sieve " + what, sieve[what], x.tray(0, what));
            Due.is("pan " + what, pan[what], x.tray(1, what));
        }
        Due.is("no loss", 0, x.loss());
        Due.is("good", 1, x.isGood());
        Due.is("nothing collected", -2, x.passing(0));
        Due.is("minutes", 0, x.count(6));
        Due.is("flow", 0, x.count(7));
        Due.is("the rules stay", 10 + 200 + 100 + 7, x.count(1) + x.count(2) + x.count(3) + x.count(4));
    }

    private static void goodToTheLastUnit() {
        // 1999 grains, of which 10 are brushed off and lost: 10000 of 9995, though 10000 / 1999 is 5.
        SieveBench x = charged("4:1000,9:999", 4);
        x.setRules(500, 10, 0, 5);
        x.shake(1);
        Due.is("10 are lost", 10, x.brush(0, 0));
        Due.is("loss", 10, x.loss());
        Due.is("a little too much", 0, x.isGood());
        SieveBench y = charged("4:1000,9:1000", 4);
        y.setRules(500, 10, 0, 5);
        y.shake(1);
        y.brush(0, 0);
        Due.is("10000 is 10000", 1, y.isGood());
        y.setRules(500, 10, 0, 4);
        Due.is("8000 is less", 0, y.isGood());
        SieveBench tenth = charged("4:1000", 4);
        tenth.setRules(500, 100, 0, 100);
        tenth.shake(1);
        tenth.brush(0, 0);
        Due.is("a tenth at G = 100", 1, tenth.isGood());
        tenth.setRules(500, 2, 0, 100);
        tenth.shake(1);
        Due.is("1 of 900", 1, tenth.brush(0, 0));
        Due.is("one more than a tenth", 0, tenth.isGood());
        SieveBench none = charged("4:1000", 4);
        none.setRules(500, 0, 0, 0);
        none.shake(200);
        Due.is("no loss at G = 0", 1, none.isGood());
        SieveBench most = charged(FULL_SAMPLE, 9);
        most.setRules(1, 200, 100, 0);
        most.shake(200);
        most.brush(0, 0);
        Due.holds("much is lost", most.loss() > 19000);
        Due.is("of 99990", 0, most.isGood());
    }

    private static void passingFromEndToEnd() {
        SieveBench all = charged("0:1000", 9, 5, 1);
        all.setRules(500, 0, 0, 0);
        all.shake(200);
        all.shake(200);
        all.collect(3);
        for (int tray = 0; tray <= 2; tray++) {
            Due.is("all in the pan", 1000, all.passing(tray));
        }
        SieveBench none = charged("9:1000", 9, 5, 1);
        none.collect(0);
        for (int tray = 0; tray <= 2; tray++) {
            Due.is("all on the highest", 0, none.passing(tray));
        }
        SieveBench most = charged(FULL_SAMPLE, 9, 8);
        most.setRules(500, 0, 0, 0);
        most.shake(200);
        most.collect(2);
        Due.is("all that was collected, of 99990", 1000, most.passing(0));
        most.collect(1);
        most.collect(0);
        Due.is("nine of ten", 900, most.passing(0));
        Due.is("eight of ten", 800, most.passing(1));
        // The sum is of what was collected, not of the total, and brushed grains count with their sieve.
        SieveBench stuck = charged("0:10,3:5", 3);
        stuck.setRules(500, 200, 0, 0);
        stuck.shake(1);
        stuck.brush(0, 1);
        Due.is("one brushed grain", 0, stuck.passing(0));
        Due.is("is the collected mass", 1, stuck.tray(0, 3));
        stuck.collect(1);
        Due.is("9 of 10", 900, stuck.passing(0));
        stuck.collect(0);
        Due.is("9 of 15", 600, stuck.passing(0));
    }

    private static void modulusFromEndToEnd() {
        SieveBench all = charged("0:1000", 9, 5, 1);
        all.setRules(500, 0, 0, 0);
        all.shake(200);
        all.collect(3);
        Due.is("all in the pan", 0, all.modulus());
        SieveBench none = charged("9:1", 9, 5, 1);
        none.collect(0);
        Due.is("all on the highest", 300, none.modulus());
        // Retained are 1 and 1 and 8: only their sum is a ten.
        SieveBench sum = charged("0:992,9:1,7:7", 9, 8, 7);
        sum.setRules(500, 0, 0, 0);
        sum.shake(200);
        for (int tray = 0; tray <= 3; tray++) {
            sum.collect(tray);
        }
        Due.is("999", 999, sum.passing(0));
        Due.is("999 again", 999, sum.passing(1));
        Due.is("992", 992, sum.passing(2));
        Due.is("10 / 10", 1, sum.modulus());
    }

    private static void bandsEndsIncluded() {
        SieveBench x = charged("0:500,9:500", 5);
        x.setRules(500, 0, 0, 0);
        x.shake(200);
        x.collect(0);
        x.collect(1);
        Due.is("passing", 500, x.passing(0));
        int[][] bands = {{0, 499, 1}, {0, 500, 0}, {500, 500, 0}, {500, 1000, 0}, {501, 1000, 1},
            {499, 501, 0}, {0, 0, 1}, {1000, 1000, 1}};
        for (int[] band : bands) {
            x.setBand(5, band[0], band[1]);
            Due.is("band " + band[0] + " to " + band[1], band[2], x.misses());
        }
        x.setBand(5, 0, 1000);
        x.setBand(4, 0, 0);
        x.setBand(6, 0, 0);
        Due.is("bands of other apertures", 0, x.misses());
        SieveBench six = charged("0:1,9:1", 9, 7, 5, 4, 3, 1);
        six.shake(10);
        for (int tray = 0; tray <= 6; tray++) {
            six.collect(tray);
        }
        for (int aperture = 1; aperture <= 9; aperture++) {
            six.setBand(aperture, 501, 1000);
        }
        Due.is("all six", 6, six.misses());
    }

    private static void truePassingFromEndToEnd() {
        SieveBench x = new SieveBench();
        x.setMass(0, 1);
        for (int aperture = 1; aperture <= 9; aperture++) {
            Due.is("all is finer", 1000, x.truePassing(aperture));
        }
        x.setMass(0, 0);
        x.setMass(9, 1);
        for (int aperture = 1; aperture <= 9; aperture++) {
            Due.is("all is coarser", 0, x.truePassing(aperture));
        }
        Due.load(x, FULL_SAMPLE);
        for (int aperture = 1; aperture <= 9; aperture++) {
            Due.is("of the fullest sample", 100 * aperture, x.truePassing(aperture));
        }
        Due.load(x, "0:1,1:2");
        Due.is("333 and a third", 333, x.truePassing(1));
        Due.load(x, "0:2,1:1");
        Due.is("666 and two thirds", 666, x.truePassing(1));
    }

    // ---- forecasts

    private static void firstMinuteBelowTheFlow() {
        // 8999 of class 0, 999 of class 1 and 1 of class 2 fall in the first minute.
        SieveBench most = charged("0:9999,1:1111,2:1", 9);
        Due.is("9999 is not less than 9999", 2, most.minutesTo(9999));
        SieveBench less = charged("0:9999,1:1111", 9);
        Due.is("9998 is", 1, less.minutesTo(9999));
        // 1 falls in the first minute, 2 in the second, 1 in the third, none in the fourth.
        SieveBench rising = charged("0:2", 9, 8);
        Due.is("the first one counts, though a greater flow follows", 1, rising.minutesTo(2));
        Due.is("rest", 4, rising.minutesTo(1));
        Due.is("1", 1, rising.shake(1));
        Due.is("2 is not less", 2, rising.minutesTo(2));
        Due.is("2 is less than 3", 1, rising.minutesTo(3));
        Due.is("2", 2, rising.shake(1));
        Due.is("1 more", 1, rising.shake(1));
        Due.is("at least 1", 1, rising.minutesTo(1));
        SieveBench still = charged("9:9999", 1);
        Due.is("nothing can fall", 1, still.minutesTo(1));
        Due.is("whatever the flow", 1, still.minutesTo(9999));
    }

    private static void dustOfAllMinutes() {
        SieveBench x = charged("0:9999", 9);
        x.setRules(500, 0, 0, 0);
        x.shake(200);
        x.setRules(500, 0, 1, 0);
        int left = 9999;
        for (int minute = 1; minute <= 500; minute++) {
            left -= left / 1000;
            if (minute <= 3 || minute >= 498) {
                Due.is("dust in " + minute, 9999 - left, x.dustIn(minute));
            }
        }
        Due.is("a forecast loses nothing", 0, x.loss());
        x.shake(200);
        x.shake(200);
        x.shake(100);
        Due.is("500 minutes lose it", 9999 - left, x.loss());
        x.setRules(500, 0, 0, 0);
        Due.is("no dust at E = 0", 0, x.dustIn(500));
        x.setRules(500, 0, 100, 0);
        x.collect(1);
        Due.is("an empty pan", 0, x.dustIn(500));
        SieveBench stack = charged("0:100", 9, 8, 7);
        stack.setRules(500, 0, 100, 0);
        Due.is("nothing is in the pan after two minutes", 0, stack.dustIn(2));
        Due.is("72 after three", 7, stack.dustIn(3));
    }

    // ---- undo

    private static void seventhSavedState() {
        SieveBench x = new SieveBench();
        for (int round = 0; round < 5; round++) {
            for (int mass = 1; mass <= 7 + round; mass++) {
                x.setMass(5, 100 * round + mass);
            }
            Due.is("six are saved", 6, x.count(9));
            for (int back = 1; back <= 6; back++) {
                Due.is("left", 6 - back, x.undo());
                Due.is("restored", 100 * round + 7 + round - back, x.mass(5));
            }
            Due.is("the seventh had taken the place of the oldest", -2, x.undo());
        }
        SieveBench six = new SieveBench();
        for (int mass = 1; mass <= 6; mass++) {
            six.setMass(5, mass);
        }
        for (int back = 5; back >= 0; back--) {
            Due.is("six keep the first", back, six.undo());
        }
        Due.is("which is the empty sample", 0, six.mass(5));
        Due.is("undo saves nothing", -2, six.undo());
    }
}
