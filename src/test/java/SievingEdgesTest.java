/** The sentences that name an edge in "Stack", "Shaking" and "Analysis", and in the forecasts. */
final class SievingEdgesTest {
    public static void main(String[] args) {
        classesBelowTheAperturePass();
        sievesStandByAperture();
        opennessBounds();
        opennessWhenTheTurnComes();
        easeByDistance();
        fallOfAtLeastOne();
        stuckRoundedDown();
        dustRoundedDown();
        flowIsWhatFell();
        minutesWithoutBound();
        secondAnalysisBeginsAnew();
        goodToTheLastUnit();
        passingFromEndToEnd();
        modulusFromEndToEnd();
        bandsEndsIncluded();
        truePassingFromEndToEnd();
        firstMinuteBelowTheFlow();
        dustOfAllMinutes();
        Due.close();
    }

    // ---- stack

    private static void classesBelowTheAperturePass() {
        for (int aperture = 1; aperture <= 9; aperture++) {
            SieveBench x = new SieveBench();
            for (int size = 0; size <= 9; size++) {
                x.setMass(size, 1000);
            }
            x.setRules(500, 200, 0, 0);
            x.addSieve(aperture);
            x.charge();
            x.shake(1);
            for (int size = 0; size <= 9; size++) {
                int falls = size >= aperture ? 0 : size == aperture - 1 ? 300 : size == aperture - 2 ? 600 : 900;
                String what = "aperture " + aperture + ", class " + size;
                Due.is(what + " falls", falls, x.on(1, size));
                Due.is(what + " stays", 1000 - falls - (size == aperture ? 200 : 0), x.on(0, size));
            }
            Due.is("only its own class gets stuck", 200, x.tray(0, 2));
        }
    }

    private static void sievesStandByAperture() {
        int[][] orders = {{9, 8, 7, 6, 5, 4}, {4, 5, 6, 7, 8, 9}, {1, 9, 2, 8, 3, 7}, {5, 1, 9, 4, 6, 2}};
        for (int[] order : orders) {
            SieveBench x = new SieveBench();
            for (int placed = 0; placed < order.length; placed++) {
                int above = 0;
                for (int before = 0; before < placed; before++) {
                    above += order[before] > order[placed] ? 1 : 0;
                }
                Due.is("its number", above, x.addSieve(order[placed]));
                for (int tray = 0; tray <= placed; tray++) {
                    Due.holds("smaller than above", tray == 0 || x.tray(tray, 0) < x.tray(tray - 1, 0));
                }
                Due.is("the pan is the last", 0, x.tray(placed + 1, 0));
            }
            for (int left = order.length - 1; left >= 0; left--) {
                Due.is("one less", left, x.removeSieve(order[left]));
                Due.is("the pan moves up", 0, x.tray(left, 0));
                Due.is("nothing below it", -1, x.tray(left + 1, 0));
            }
        }
    }

    private static void opennessBounds() {
        SieveBench x = Due.charged("5:5000", 5);
        x.setRules(9999, 200, 0, 0);
        Due.is("nothing stuck", 1000, x.tray(0, 4));
        x.shake(1);
        Due.is("stuck", 1000, x.tray(0, 2));
        int[][] due = {{9999, 900}, {1112, 101}, {1111, 100}, {1110, 100}, {1000, 100}, {999, 100}, {1, 100},
            {2000, 500}, {1999, 500}, {2001, 501}, {3000, 667}};
        for (int[] row : due) {
            x.setRules(row[0], 0, 0, 0);
            Due.is("openness for C = " + row[0], row[1], x.tray(0, 4));
        }
        SieveBench one = Due.charged("5:5", 5);
        one.setRules(9999, 200, 0, 0);
        one.shake(1);
        Due.is("one grain", 1, one.tray(0, 2));
        Due.is("of 9999 blinds by nothing", 1000, one.tray(0, 4));
        one.setRules(1000, 0, 0, 0);
        Due.is("of 1000 by 1", 999, one.tray(0, 4));
        one.setRules(1001, 0, 0, 0);
        Due.is("of 1001 by nothing", 1000, one.tray(0, 4));
        SieveBench most = Due.charged("9:9999", 9);
        most.setRules(1, 200, 0, 0);
        most.shake(200);
        Due.is("9995 stuck grains, all but 4", 9995, most.tray(0, 2));
        Due.is("of a capacity of 1", 100, most.tray(0, 4));
    }

    private static void opennessWhenTheTurnComes() {
        SieveBench x = Due.charged("2:1000,5:5", 5);
        x.setRules(1, 200, 0, 0);
        Due.is("open in the minute that blinds it", 900, x.shake(1));
        Due.is("stuck", 1, x.tray(0, 2));
        Due.is("a tenth of 90 in the next", 9, x.shake(1));
        x.brush(0, 0);
        Due.is("brushed, it is open at once: 819 of 91 thousandths", 81, x.shake(1));
        // A collected tray keeps its stuck grains.
        SieveBench y = Due.charged("5:5", 5);
        y.setRules(1, 200, 0, 0);
        y.shake(1);
        y.collect(0);
        Due.is("collecting does not brush", 1, y.tray(0, 2));
        Due.is("nor open", 100, y.tray(0, 4));
    }

    private static void easeByDistance() {
        SieveBench x = Due.charged("0:1000", 1);
        Due.is("aperture 1 lets class 0 through hardly", 300, x.shake(1));
        x = Due.charged("0:1000", 2);
        Due.is("aperture 2", 600, x.shake(1));
        x = Due.charged("0:1000", 3);
        Due.is("aperture 3", 900, x.shake(1));
        x = Due.charged("0:1000", 9);
        Due.is("aperture 9", 900, x.shake(1));
        x = Due.charged("9:1000", 9);
        Due.is("class 9 falls never", 0, x.shake(200));
        Due.is("it stays or gets stuck", 1000, x.tray(0, 1) + x.tray(0, 2));
    }

    private static void fallOfAtLeastOne() {
        int[][] due = {{0, 0}, {1, 1}, {33, 1}, {34, 1}, {66, 1}, {67, 2}, {99, 2}, {100, 3}};
        for (int[] row : due) {
            SieveBench x = Due.charged("4:" + row[0] + ",5:5", 5);
            x.setRules(1, 200, 0, 0);
            SieveBench blind = blinded(row[0]);
            Due.is("openness", 100, blind.tray(0, 4));
            Due.is(row[0] + " at ease 300 and openness 100", row[1], blind.shake(1));
            Due.is(row[0] + " at openness 1000", row[0] == 0 ? 0 : Math.max(1, row[0] * 3 / 10), x.shake(1));
        }
        SieveBench last = Due.charged("0:2,1:1,2:1", 9, 8);
        Due.is("one of each", 3, last.shake(1));
        Due.is("one of each, on two trays", 1 + 3, last.shake(1));
    }

    /** A sieve of aperture 5 with an openness of 100, and a mass of class 4 on it. */
    private static SieveBench blinded(int mass) {
        // The sieve is open in the minute that blinds it: more must lie there at first.
        for (int first = mass; first <= 9999; first++) {
            int left = first - (first == 0 ? 0 : Math.max(1, first * 3 / 10));
            if (left == mass) {
                SieveBench x = Due.charged("4:" + first + ",5:5", 5);
                x.setRules(1, 200, 0, 0);
                x.shake(1);
                Due.is("left above", mass, x.on(0, 4));
                return x;
            }
        }
        return new SieveBench();
    }

    private static void stuckRoundedDown() {
        int[][] due = {{1, 200, 0}, {4, 200, 0}, {5, 200, 1}, {9, 200, 1}, {10, 200, 2}, {9999, 200, 1999},
            {9999, 0, 0}, {9999, 1, 9}, {999, 1, 0}, {1000, 1, 1}, {49, 20, 0}, {50, 20, 1}};
        for (int[] row : due) {
            SieveBench x = Due.charged("7:" + row[0], 7);
            x.setRules(500, row[1], 0, 0);
            Due.is("nothing falls", 0, x.shake(1));
            Due.is("stuck of " + row[0] + " at B = " + row[1], row[2], x.tray(0, 2));
            Due.is("left", row[0] - row[2], x.on(0, 7));
            Due.is("no loss", 0, x.loss());
        }
    }

    private static void dustRoundedDown() {
        int[][] due = {{9, 100, 0}, {10, 100, 1}, {19, 100, 1}, {999, 1, 0}, {1000, 1, 1}, {9000, 0, 0},
            {499, 2, 0}, {500, 2, 1}};
        for (int[] row : due) {
            SieveBench x = Due.charged("0:" + row[0] + ",1:9999", 1);
            x.setRules(500, 0, 0, 0);
            x.shake(200);
            Due.is("all in the pan", row[0], x.on(1, 0));
            x.setRules(500, 0, row[1], 0);
            x.shake(1);
            Due.is("dust of " + row[0] + " at E = " + row[1], row[2], x.loss());
            Due.is("left", row[0] - row[2], x.on(1, 0));
        }
        SieveBench other = Due.charged("0:1,1:9999,2:9999", 9);
        other.setRules(500, 0, 100, 0);
        other.shake(200);
        Due.is("other classes in the pan are no dust", 19998, other.on(1, 1) + other.on(1, 2));
        Due.is("no loss", 0, other.loss());
        other.collect(1);
        SieveBench safe = Due.charged("0:1000", 9);
        safe.setRules(500, 0, 0, 0);
        safe.shake(200);
        safe.collect(1);
        safe.setRules(500, 0, 100, 0);
        safe.shake(200);
        Due.is("what is collected is no dust", 0, safe.loss());
    }

    // ---- analysis

    private static void flowIsWhatFell() {
        SieveBench x = Due.charged("0:1000,4:1000", 4);
        x.setRules(500, 200, 100, 0);
        Due.is("neither stuck nor dust", 900, x.shake(1));
        Due.is("flow", 900, x.count(7));
        SieveBench two = Due.charged("0:100", 9, 8);
        Due.is("first", 90, two.shake(1));
        Due.is("a grain counts on each tray that it leaves", 9 + 81, two.shake(1));
        two.collect(0);
        two.collect(1);
        Due.is("nothing is left to fall", 0, two.shake(1));
        Due.is("the flow of a minute of rest", 0, two.count(7));
        Due.is("three minutes", 3, two.count(6));
        two.collect(2);
        Due.is("collecting takes no minute", 3, two.count(6));
    }

    private static void minutesWithoutBound() {
        SieveBench x = Due.charged("0:1", 1);
        for (int round = 1; round <= 60; round++) {
            x.shake(200);
            Due.is("minutes", 200 * round, x.count(6));
        }
        x.undo();
        Due.is("undone", 200 * 59, x.count(6));
        Due.is("1 minute", 0, x.shake(1));
        Due.is("added", 200 * 59 + 1, x.count(6));
    }

    private static void secondAnalysisBeginsAnew() {
        SieveBench x = Due.charged("0:1000,4:1000", 4);
        x.setRules(10, 200, 100, 7);
        x.shake(2);
        x.collect(1);
        x.brush(0, 0);
        x.shake(1);
        Due.holds("stuck", x.tray(0, 2) > 0);
        Due.holds("lost", x.loss() > 0);
        x.setMass(3, 5);
        Due.is("total", 5, x.charge());
        int[] sieve = {4, 5, 0, 0, 1000};
        int[] pan = {0, 0, 0, 0, 1000};
        for (int what = 0; what <= 4; what++) {
            Due.is("sieve " + what, sieve[what], x.tray(0, what));
            Due.is("pan " + what, pan[what], x.tray(1, what));
        }
        Due.is("no loss", 0, x.loss());
        Due.is("good", 1, x.isGood());
        Due.is("nothing collected", -2, x.passing(0));
        Due.is("minutes", 0, x.count(6));
        Due.is("flow", 0, x.count(7));
        Due.is("the rules stay", 10 + 200 + 100 + 7, x.count(1) + x.count(2) + x.count(3) + x.count(4));
    }

    private static void goodToTheLastUnit() {
        // 1999 grains, of which 10 are brushed off and lost: 10000 of 9995, though 10000 / 1999 is 5.
        SieveBench x = Due.charged("4:1000,9:999", 4);
        x.setRules(500, 10, 0, 5);
        x.shake(1);
        Due.is("10 are lost", 10, x.brush(0, 0));
        Due.is("loss", 10, x.loss());
        Due.is("a little too much", 0, x.isGood());
        SieveBench y = Due.charged("4:1000,9:1000", 4);
        y.setRules(500, 10, 0, 5);
        y.shake(1);
        y.brush(0, 0);
        Due.is("10000 is 10000", 1, y.isGood());
        y.setRules(500, 10, 0, 4);
        Due.is("8000 is less", 0, y.isGood());
        SieveBench tenth = Due.charged("4:1000", 4);
        tenth.setRules(500, 100, 0, 100);
        tenth.shake(1);
        tenth.brush(0, 0);
        Due.is("a tenth at G = 100", 1, tenth.isGood());
        tenth.setRules(500, 2, 0, 100);
        tenth.shake(1);
        Due.is("1 of 900", 1, tenth.brush(0, 0));
        Due.is("one more than a tenth", 0, tenth.isGood());
        SieveBench none = Due.charged("4:1000", 4);
        none.setRules(500, 0, 0, 0);
        none.shake(200);
        Due.is("no loss at G = 0", 1, none.isGood());
        SieveBench most = Due.charged(Due.FULL_SAMPLE, 9);
        most.setRules(1, 200, 100, 0);
        most.shake(200);
        most.brush(0, 0);
        Due.holds("much is lost", most.loss() > 19000);
        Due.is("of 99990", 0, most.isGood());
    }

    private static void passingFromEndToEnd() {
        SieveBench all = Due.charged("0:1000", 9, 5, 1);
        all.setRules(500, 0, 0, 0);
        all.shake(200);
        all.shake(200);
        all.collect(3);
        for (int tray = 0; tray <= 2; tray++) {
            Due.is("all in the pan", 1000, all.passing(tray));
        }
        SieveBench none = Due.charged("9:1000", 9, 5, 1);
        none.collect(0);
        for (int tray = 0; tray <= 2; tray++) {
            Due.is("all on the highest", 0, none.passing(tray));
        }
        SieveBench most = Due.charged(Due.FULL_SAMPLE, 9, 8);
        most.setRules(500, 0, 0, 0);
        most.shake(200);
        most.collect(2);
        Due.is("all that was collected, of 99990", 1000, most.passing(0));
        most.collect(1);
        most.collect(0);
        Due.is("nine of ten", 900, most.passing(0));
        Due.is("eight of ten", 800, most.passing(1));
        // The sum is of what was collected, not of the total, and brushed grains count with their sieve.
        SieveBench stuck = Due.charged("0:10,3:5", 3);
        stuck.setRules(500, 200, 0, 0);
        stuck.shake(1);
        stuck.brush(0, 1);
        Due.is("one brushed grain", 0, stuck.passing(0));
        Due.is("is the collected mass", 1, stuck.tray(0, 3));
        stuck.collect(1);
        Due.is("9 of 10", 900, stuck.passing(0));
        stuck.collect(0);
        Due.is("9 of 15", 600, stuck.passing(0));
    }

    private static void modulusFromEndToEnd() {
        SieveBench all = Due.charged("0:1000", 9, 5, 1);
        all.setRules(500, 0, 0, 0);
        all.shake(200);
        all.collect(3);
        Due.is("all in the pan", 0, all.modulus());
        SieveBench none = Due.charged("9:1", 9, 5, 1);
        none.collect(0);
        Due.is("all on the highest", 300, none.modulus());
        // Retained are 1 and 1 and 8: only their sum is a ten.
        SieveBench sum = Due.charged("0:992,9:1,7:7", 9, 8, 7);
        sum.setRules(500, 0, 0, 0);
        sum.shake(200);
        for (int tray = 0; tray <= 3; tray++) {
            sum.collect(tray);
        }
        Due.is("999", 999, sum.passing(0));
        Due.is("999 again", 999, sum.passing(1));
        Due.is("992", 992, sum.passing(2));
        Due.is("10 / 10", 1, sum.modulus());
    }

    private static void bandsEndsIncluded() {
        SieveBench x = Due.charged("0:500,9:500", 5);
        x.setRules(500, 0, 0, 0);
        x.shake(200);
        x.collect(0);
        x.collect(1);
        Due.is("passing", 500, x.passing(0));
        int[][] bands = {{0, 499, 1}, {0, 500, 0}, {500, 500, 0}, {500, 1000, 0}, {501, 1000, 1},
            {499, 501, 0}, {0, 0, 1}, {1000, 1000, 1}};
        for (int[] band : bands) {
            x.setBand(5, band[0], band[1]);
            Due.is("band " + band[0] + " to " + band[1], band[2], x.misses());
        }
        x.setBand(5, 0, 1000);
        x.setBand(4, 0, 0);
        x.setBand(6, 0, 0);
        Due.is("bands of other apertures", 0, x.misses());
        SieveBench six = Due.charged("0:1,9:1", 9, 7, 5, 4, 3, 1);
        six.shake(10);
        for (int tray = 0; tray <= 6; tray++) {
            six.collect(tray);
        }
        for (int aperture = 1; aperture <= 9; aperture++) {
            six.setBand(aperture, 501, 1000);
        }
        Due.is("all six", 6, six.misses());
    }

    private static void truePassingFromEndToEnd() {
        SieveBench x = new SieveBench();
        x.setMass(0, 1);
        for (int aperture = 1; aperture <= 9; aperture++) {
            Due.is("all is finer", 1000, x.truePassing(aperture));
        }
        x.setMass(0, 0);
        x.setMass(9, 1);
        for (int aperture = 1; aperture <= 9; aperture++) {
            Due.is("all is coarser", 0, x.truePassing(aperture));
        }
        Due.load(x, Due.FULL_SAMPLE);
        for (int aperture = 1; aperture <= 9; aperture++) {
            Due.is("of the fullest sample", 100 * aperture, x.truePassing(aperture));
        }
        Due.load(x, "0:1,1:2");
        Due.is("333 and a third", 333, x.truePassing(1));
        Due.load(x, "0:2,1:1");
        Due.is("666 and two thirds", 666, x.truePassing(1));
    }

    // ---- forecasts

    private static void firstMinuteBelowTheFlow() {
        // 8999 of class 0, 999 of class 1 and 1 of class 2 fall in the first minute.
        SieveBench most = Due.charged("0:9999,1:1111,2:1", 9);
        Due.is("9999 is not less than 9999", 2, most.minutesTo(9999));
        SieveBench less = Due.charged("0:9999,1:1111", 9);
        Due.is("9998 is", 1, less.minutesTo(9999));
        // 1 falls in the first minute, 2 in the second, 1 in the third, none in the fourth.
        SieveBench rising = Due.charged("0:2", 9, 8);
        Due.is("the first one counts, though a greater flow follows", 1, rising.minutesTo(2));
        Due.is("rest", 4, rising.minutesTo(1));
        Due.is("1", 1, rising.shake(1));
        Due.is("2 is not less", 2, rising.minutesTo(2));
        Due.is("2 is less than 3", 1, rising.minutesTo(3));
        Due.is("2", 2, rising.shake(1));
        Due.is("1 more", 1, rising.shake(1));
        Due.is("at least 1", 1, rising.minutesTo(1));
        SieveBench still = Due.charged("9:9999", 1);
        Due.is("nothing can fall", 1, still.minutesTo(1));
        Due.is("whatever the flow", 1, still.minutesTo(9999));
    }

    private static void dustOfAllMinutes() {
        SieveBench x = Due.charged("0:9999", 9);
        x.setRules(500, 0, 0, 0);
        x.shake(200);
        x.setRules(500, 0, 1, 0);
        int left = 9999;
        for (int minute = 1; minute <= 500; minute++) {
            left -= left / 1000;
            if (minute <= 3 || minute >= 498) {
                Due.is("dust in " + minute, 9999 - left, x.dustIn(minute));
            }
        }
        Due.is("a forecast loses nothing", 0, x.loss());
        x.shake(200);
        x.shake(200);
        x.shake(100);
        Due.is("500 minutes lose it", 9999 - left, x.loss());
        x.setRules(500, 0, 0, 0);
        Due.is("no dust at E = 0", 0, x.dustIn(500));
        x.setRules(500, 0, 100, 0);
        x.collect(1);
        Due.is("an empty pan", 0, x.dustIn(500));
        SieveBench stack = Due.charged("0:100", 9, 8, 7);
        stack.setRules(500, 0, 100, 0);
        Due.is("nothing is in the pan after two minutes", 0, stack.dustIn(2));
        Due.is("72 after three", 7, stack.dustIn(3));
    }
}
