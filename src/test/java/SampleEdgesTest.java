/** The sentences that name an edge in "Classes and samples", split(), splitTo() and combine(). */
final class SampleEdgesTest {
    public static void main(String[] args) {
        massesAndTheirSum();
        oddUnitsByTurns();
        turnsBeginAnewInEachSplitting();
        reserveWithoutUpperBound();
        combineUpToTheBrim();
        splitToTheNumberItself();
        Due.close();
    }

    private static void masses(String what, SieveBench x, int... wanted) {
        for (int size = 0; size < wanted.length; size++) {
            Due.is(what + ", class " + size, wanted[size], x.mass(size));
        }
    }

    private static void massesAndTheirSum() {
        for (int size = 0; size <= 9; size++) {
            SieveBench x = new SieveBench();
            for (int mass : new int[] {0, 1, 9998, 9999}) {
                int before = x.mass(size);
                Due.is("previous", before, x.setMass(size, mass));
                Due.is("set", mass, x.mass(size));
                Due.is("the others stay 0", mass, x.mass(-1));
            }
        }
        String text = Due.FULL_SAMPLE + " ".repeat(80 - Due.FULL_SAMPLE.length());
        SieveBench full = new SieveBench();
        Due.type(full, text);
        Due.is("80 characters", 80, full.count(8));
        Due.is("ten times 9999", 99990, full.load());
        Due.is("sum", 99990, full.mass(-1));
    }

    private static void oddUnitsByTurns() {
        SieveBench x = new SieveBench();
        Due.load(x, Due.FULL_SAMPLE);
        Due.is("five turns each", 49995, x.split(0));
        masses("left", x, 5000, 4999, 5000, 4999, 5000, 4999, 5000, 4999, 5000, 4999);
        for (int size = 0; size <= 9; size++) {
            Due.is("right, class " + size, 9999 - x.mass(size), x.reserve(size));
        }
        // Even masses take no turn: 1 left, 4 right, 7 left, 9 right.
        Due.load(x, "0:2,1:1,2:8,3:2,4:3,6:6,7:1,9:5");
        Due.is("without turns of even ones", 14, x.split(0));
        masses("left by turns", x, 1, 1, 4, 1, 1, 0, 3, 1, 0, 2);
    }

    private static void turnsBeginAnewInEachSplitting() {
        SieveBench x = new SieveBench();
        x.setMass(3, 5);
        Due.is("5, 3, 2, 1", 3, x.splitTo(1));
        x.setMass(3, 5);
        Due.is("5 leaves 3", 3, x.split(0));
        Due.is("3 leaves 2", 2, x.split(0));
        SieveBench y = new SieveBench();
        y.setMass(3, 5);
        Due.is("the right one has 2", 2, y.split(1));
        Due.is("then 1", 1, y.split(1));
        Due.is("then 0", 0, y.split(1));
        SieveBench all = new SieveBench();
        Due.load(all, "0:1,1:1,2:1");
        Due.is("one splitting to 2", 1, all.splitTo(2));
        masses("the first and the third go left", all, 1, 0, 1);
        Due.is("one more to 1", 1, all.splitTo(1));
        masses("the first goes left", all, 1, 0, 0);
    }

    private static void reserveWithoutUpperBound() {
        SieveBench x = new SieveBench();
        for (int round = 1; round <= 24; round++) {
            Due.load(x, "0:9999,9:9998");
            x.split(1);
            Due.is("class 0", 5000 * round, x.reserve(0));
            Due.is("class 9", 4999 * round, x.reserve(9));
            Due.is("sum", 9999 * round, x.reserve(-1));
        }
    }

    private static void combineUpToTheBrim() {
        for (int size = 0; size <= 9; size++) {
            SieveBench x = new SieveBench();
            x.setMass(size, 9999);
            x.split(1);
            x.setMass(size, 9999);
            x.split(1);
            Due.is("10000 in the reserve", 10000, x.reserve(size));
            x.setMass(size, 0);
            x.setMass((size + 1) % 10, 9999);
            Due.is("too much for an empty class", -3, x.combine());
            Due.is("which stays empty", 0, x.mass(size));
            Due.is("and the reserve full", 10000, x.reserve(-1));
        }
        SieveBench all = new SieveBench();
        Due.load(all, Due.FULL_SAMPLE);
        all.split(0);
        Due.is("all classes to the brim", 99990, all.combine());
        Due.is("again, without a reserve", 99990, all.combine());
        Due.is("reserve", 0, all.reserve(-1));
        all.split(0);
        all.setMass(9, 5000);
        Due.is("10000 of the last class alone is too much", -3, all.combine());
        all.setMass(9, 4999);
        Due.is("9999 is not", 99990, all.combine());
    }

    private static void splitToTheNumberItself() {
        SieveBench x = new SieveBench();
        Due.load(x, "0:9999");
        Due.is("9999 is not greater than 9999", 0, x.splitTo(9999));
        Due.is("nothing went", 0, x.reserve(-1));
        x.setMass(9, 1);
        Due.is("10000 is", 1, x.splitTo(9999));
        Due.is("left part", 5000, x.mass(-1));
        x = new SieveBench();
        x.setMass(4, 1);
        Due.is("1 is not greater than 1", 0, x.splitTo(1));
        x.setMass(4, 2);
        Due.is("2 is", 1, x.splitTo(1));
        Due.is("1 stays", 1, x.mass(4));
        Due.is("1 goes", 1, x.reserve(4));
        Due.load(x, Due.FULL_SAMPLE);
        int before = x.reserve(-1) + 99990;
        // 99990 49995 24998 12499 6250 3125 1563 782 391 196 98 49 25 13 7 4 2 1: the left part is never the smaller.
        Due.is("of the fullest sample", 17, x.splitTo(1));
        Due.is("down to 1", 1, x.mass(-1));
        Due.is("the finest stays", 1, x.mass(0));
        Due.is("the rest is kept", before - 1, x.reserve(-1));
    }
}
