/** All promises: runs of 512 calls, made by counting, against the document written a second time. */
final class LongRunsTest {
    private static final int RUNS = 1500;
    private static final int CALLS = 512;
    private static final String[] NAMES = {"setMass", "mass", "reserve", "split", "splitTo", "combine",
        "appendCharacter", "clearText", "load", "addSieve", "removeSieve", "setRules", "setBand", "count",
        "tray", "on", "charge", "shake", "collect", "brush", "loss", "isGood", "passing", "misses", "modulus",
        "truePassing", "minutesTo", "dustIn", "undo"};
    private static final int[] STRANGE = {Integer.MIN_VALUE, Integer.MAX_VALUE, -2, -1, 0, 1, 6, 7, 9, 10,
        80, 81, 100, 101, 200, 201, 255, 256, 500, 501, 1000, 1001, 9999, 10000, 1 << 16, -1 << 16};

    private long seed;
    private SieveBench bench;
    private PlainModel model;
    private int run;

    public static void main(String[] args) {
        LongRunsTest test = new LongRunsTest();
        int[] good = new int[NAMES.length];
        int[] bad = new int[NAMES.length];
        for (int run = 0; run < RUNS; run++) {
            test.begin(run);
            for (int calls = 0; calls < CALLS; calls++) {
                int number = test.choose();
                (test.step(number) >= 0 ? good : bad)[number]++;
            }
        }
        for (int number = 0; number < NAMES.length; number++) {
            Due.holds(NAMES[number] + " succeeds at times", good[number] > 1000);
        }
        Due.close();
    }

    private void begin(int number) {
        run = number;
        seed = number;
        bench = new SieveBench();
        model = new PlainModel();
    }

    private int next(int bound) {
        seed = seed * 6364136223846793005L + 1442695040888963407L;
        return (int) ((seed >>> 33) % bound);
    }

    /** Each run likes some calls better than others; undo and stack changes are kept rare in most. */
    private int choose() {
        int style = run % 4;
        if (style == 1 && next(10) < 7) {
            return next(10) == 0 ? 7 + next(2) : 6;
        }
        if (style >= 2 && next(10) < 6) {
            return 14 + next(14);
        }
        if (next(3) == 0) {
            return 0;
        }
        return next(NAMES.length);
    }

    private long step(int number) {
        int p = argument(number, 0);
        int q = argument(number, 1);
        int r = argument(number, 2);
        int s = argument(number, 3);
        long want = model.call(number, p, q, r, s);
        String what = "run " + run + ": " + NAMES[number] + "(" + p + ", " + q + ", " + r + ", " + s + ")";
        long got = call(number, p, q, r, s);
        Due.is(what, want, got);
        return got;
    }

    private int argument(int number, int place) {
        if (number != 6 && next(25) == 0) {
            return STRANGE[next(STRANGE.length)];
        }
        switch (number) {
            case 0: return place == 0 ? next(10) : next(4) == 0 ? 9999 - next(3) : next(3) == 0 ? next(30) : next(9999);
            case 3: return next(2);
            case 4: return next(2) == 0 ? 1 + next(9999) : 1 + next(10);
            case 6: return "0123456789::::,,,,,,    01x".charAt(next(27));
            case 9:
            case 10:
            case 25: return 1 + next(9);
            case 11: return new int[] {1 + next(next(2) == 0 ? 9999 : 30), next(201), next(101), next(101)}[place];
            case 12: return place == 0 ? 1 + next(9) : place == 1 ? next(600) : 400 + next(601);
            case 14: return place == 0 ? next(7) : next(5);
            case 15: return place == 0 ? next(7) : next(10);
            case 17: return next(3) == 0 ? 1 + next(200) : 1 + next(4);
            case 18:
            case 19:
            case 22: return place == 0 ? next(4) : next(2);
            case 26: return next(2) == 0 ? 1 + next(20) : 1 + next(9999);
            case 27: return 1 + next(500);
            default: return next(10);
        }
    }

    private long call(int number, int p, int q, int r, int s) {
        switch (number) {
            case 0: return bench.setMass(p, q);
            case 1: return bench.mass(p);
            case 2: return bench.reserve(p);
            case 3: return bench.split(p);
            case 4: return bench.splitTo(p);
            case 5: return bench.combine();
            case 6: return bench.appendCharacter(p);
            case 7: return bench.clearText();
            case 8: return bench.load();
            case 9: return bench.addSieve(p);
            case 10: return bench.removeSieve(p);
            case 11: return bench.setRules(p, q, r, s);
            case 12: return bench.setBand(p, q, r);
            case 13: return bench.count(p);
            case 14: return bench.tray(p, q);
            case 15: return bench.on(p, q);
            case 16: return bench.charge();
            case 17: return bench.shake(p);
            case 18: return bench.collect(p);
            case 19: return bench.brush(p, q);
            case 20: return bench.loss();
            case 21: return bench.isGood();
            case 22: return bench.passing(p);
            case 23: return bench.misses();
            case 24: return bench.modulus();
            case 25: return bench.truePassing(p);
            case 26: return bench.minutesTo(p);
            case 27: return bench.dustIn(p);
            default: return bench.undo();
        }
    }
}
