import java.util.ArrayList;
import java.util.List;
import java.util.function.Supplier;
import java.util.function.ToIntFunction;

/** The section "Errors": each refused call answers the code that is due, and changes nothing. */
final class RefusalsTest {
    private static final int MIN = Integer.MIN_VALUE;
    private static final int MAX = Integer.MAX_VALUE;
    /** Far outside of every range, and inside of many if only the low bits were looked at. */
    private static final int[] FAR = {MIN, MIN + 1, MIN + 5, -65536, -256, 65536, 1 << 24, MAX - 1, MAX};

    private static Supplier<SieveBench> state;
    private static String stateName;

    public static void main(String[] args) {
        enter("new", SieveBench::new);
        argumentsOutOfRange();
        noSuchTray(0);
        withoutSampleMass();
        withoutAnalysis(0);
        withoutSieves();
        is("undo of nothing", -2, SieveBench::undo);

        enter("stack without analysis", RefusalsTest::stackAlone);
        argumentsOutOfRange();
        noSuchTray(3);
        withoutAnalysis(3);
        sievesThatStandOrNot();
        is("text with an error", -14, SieveBench::load);

        enter("stack without sample", RefusalsTest::stackWithoutSample);
        withoutSampleMass();
        withoutAnalysis(2);

        enter("analysis", RefusalsTest::analysis);
        argumentsOutOfRange();
        noSuchTray(3);
        sievesThatStandOrNot();
        is("text with an error", -14, SieveBench::load);
        is("a class would have 10000", -3, SieveBench::combine);

        enter("analysis, nothing collected", RefusalsTest::nothingCollected);
        withoutSampleMass();
        noSuchTray(3);
        withoutCollectedSum(3);

        enter("all full", RefusalsTest::full);
        argumentsOutOfRange();
        noSuchTray(6);
        withoutRoom();
        Due.close();
    }

    private static void enter(String name, Supplier<SieveBench> maker) {
        stateName = name;
        state = maker;
    }

    // ---- the states

    private static void stack(SieveBench x, int... apertures) {
        for (int aperture : apertures) {
            x.addSieve(aperture);
        }
    }

    private static void bands(SieveBench x) {
        for (int aperture = 1; aperture <= 9; aperture++) {
            x.setBand(aperture, 10 * aperture, 900 + aperture);
        }
    }

    private static SieveBench stackAlone() {
        SieveBench x = new SieveBench();
        bands(x);
        Due.load(x, "0:1001,3:2001,9:9999");
        x.split(1);
        stack(x, 6, 2, 4);
        Due.type(x, "1:5,x");
        return x;
    }

    private static SieveBench stackWithoutSample() {
        SieveBench x = new SieveBench();
        stack(x, 4, 7);
        x.setMass(5, 1);
        x.split(1);
        return x;
    }

    private static SieveBench analysis() {
        SieveBench x = new SieveBench();
        bands(x);
        Due.load(x, "0:1001,2:1001,4:2001,6:999,9:9999");
        x.split(1);
        stack(x, 6, 2, 4);
        x.setRules(40, 50, 30, 20);
        x.charge();
        x.shake(3);
        x.collect(3);
        x.shake(4);
        x.collect(1);
        x.setMass(9, 5000);
        x.setMass(0, 7);
        Due.type(x, "1:5,x");
        return x;
    }

    private static SieveBench nothingCollected() {
        SieveBench x = new SieveBench();
        bands(x);
        Due.load(x, "0:1001,2:1001,4:2001");
        stack(x, 6, 2, 4);
        x.charge();
        x.shake(3);
        x.brush(1, 0);
        return x;
    }

    private static SieveBench full() {
        SieveBench x = new SieveBench();
        bands(x);
        Due.load(x, Due.FULL_SAMPLE);
        x.split(1);
        x.split(1);
        stack(x, 9, 7, 6, 4, 3, 1);
        x.charge();
        x.setMass(0, 9999);
        Due.type(x, " ".repeat(79) + ",");
        return x;
    }

    // ---- the refused calls

    /** For the calls without other arguments: a number below the range and one above it. */
    private static void outside(String name, int lowest, int highest, Call call) {
        is(name, -1, x -> call.on(x, lowest - 1));
        is(name, -1, x -> call.on(x, highest + 1));
        for (int far : FAR) {
            is(name + " " + far, -1, x -> call.on(x, far));
        }
    }

    private static void argumentsOutOfRange() {
        outside("setMass size", 0, 9, (x, n) -> x.setMass(n, 1));
        outside("setMass mass", 0, 9999, (x, n) -> x.setMass(0, n));
        outside("setMass both", 0, 9, (x, n) -> x.setMass(n, -1));
        outside("mass", -1, 9, SieveBench::mass);
        outside("reserve", -1, 9, SieveBench::reserve);
        outside("split", 0, 1, SieveBench::split);
        outside("splitTo", 1, 9999, SieveBench::splitTo);
        outside("appendCharacter", 0, 255, SieveBench::appendCharacter);
        outside("addSieve", 1, 9, SieveBench::addSieve);
        outside("removeSieve", 1, 9, SieveBench::removeSieve);
        outside("setRules c", 1, 9999, (x, n) -> x.setRules(n, 1, 1, 1));
        outside("setRules b", 0, 200, (x, n) -> x.setRules(1, n, 1, 1));
        outside("setRules e", 0, 100, (x, n) -> x.setRules(1, 1, n, 1));
        outside("setRules g", 0, 100, (x, n) -> x.setRules(1, 1, 1, n));
        outside("setBand aperture", 1, 9, (x, n) -> x.setBand(n, 1, 2));
        outside("setBand lowest", 0, 1000, (x, n) -> x.setBand(1, n, 1000));
        outside("setBand highest", 300, 1000, (x, n) -> x.setBand(1, 300, n));
        outside("setBand highest of 1000", 1000, 1000, (x, n) -> x.setBand(1, 1000, n));
        outside("setBand both ends alike", 0, 1000, (x, n) -> x.setBand(1, n, n));
        outside("count", 0, 9, SieveBench::count);
        outside("shake", 1, 200, SieveBench::shake);
        outside("truePassing", 1, 9, SieveBench::truePassing);
        outside("minutesTo", 1, 9999, SieveBench::minutesTo);
        outside("dustIn", 1, 500, SieveBench::dustIn);
    }

    private static void noSuchTray(int sieves) {
        outside("tray", 0, sieves, (x, n) -> x.tray(n, 1));
        outside("tray what", 0, 4, (x, n) -> x.tray(sieves, n));
        outside("on", 0, sieves, (x, n) -> x.on(n, 1));
        outside("on size", 0, 9, (x, n) -> x.on(sieves, n));
        outside("collect", 0, sieves, SieveBench::collect);
        // The pan is no sieve.
        outside("brush", 0, sieves - 1, (x, n) -> x.brush(n, 1));
        outside("brush saved", 0, 1, (x, n) -> x.brush(0, n));
        outside("passing", 0, sieves - 1, SieveBench::passing);
    }

    private static void withoutSampleMass() {
        is("split left", -2, x -> x.split(0));
        is("split right", -2, x -> x.split(1));
        is("split 2", -1, x -> x.split(2));
        is("charge", -2, SieveBench::charge);
        for (int aperture = 1; aperture <= 9; aperture++) {
            int asked = aperture;
            is("truePassing", -2, x -> x.truePassing(asked));
        }
        is("truePassing 10", -1, x -> x.truePassing(10));
    }

    private static void withoutSieves() {
        is("brush", -1, x -> x.brush(0, 0));
        is("passing", -1, x -> x.passing(0));
        is("charge", -2, SieveBench::charge);
        for (int aperture = 1; aperture <= 9; aperture++) {
            int asked = aperture;
            is("removeSieve", -2, x -> x.removeSieve(asked));
        }
    }

    private static void withoutAnalysis(int sieves) {
        is("shake 1", -2, x -> x.shake(1));
        is("shake 200", -2, x -> x.shake(200));
        is("shake 201", -1, x -> x.shake(201));
        is("loss", -2, SieveBench::loss);
        is("isGood", -2, SieveBench::isGood);
        is("misses", -2, SieveBench::misses);
        is("modulus", -2, SieveBench::modulus);
        is("minutesTo 1", -2, x -> x.minutesTo(1));
        is("minutesTo 9999", -2, x -> x.minutesTo(9999));
        is("minutesTo 10000", -1, x -> x.minutesTo(10000));
        is("dustIn 1", -2, x -> x.dustIn(1));
        is("dustIn 500", -2, x -> x.dustIn(500));
        is("dustIn 501", -1, x -> x.dustIn(501));
        for (int tray = 0; tray <= sieves; tray++) {
            int asked = tray;
            is("collect", -2, x -> x.collect(asked));
        }
        is("collect below", -1, x -> x.collect(sieves + 1));
        for (int tray = 0; tray < sieves; tray++) {
            int asked = tray;
            is("brush lost", -2, x -> x.brush(asked, 0));
            is("brush saved", -2, x -> x.brush(asked, 1));
            is("brush 2", -1, x -> x.brush(asked, 2));
            is("passing", -2, x -> x.passing(asked));
        }
        is("brush the pan", -1, x -> x.brush(sieves, 0));
        is("passing of the pan", -1, x -> x.passing(sieves));
    }

    private static void withoutCollectedSum(int sieves) {
        for (int tray = 0; tray < sieves; tray++) {
            int asked = tray;
            is("passing", -2, x -> x.passing(asked));
        }
        is("passing of the pan", -1, x -> x.passing(sieves));
        is("misses", -2, SieveBench::misses);
        is("modulus", -2, SieveBench::modulus);
    }

    /** The stack is 6, 4, 2. */
    private static void sievesThatStandOrNot() {
        for (int aperture = 1; aperture <= 9; aperture++) {
            int asked = aperture;
            if (aperture == 2 || aperture == 4 || aperture == 6) {
                is("addSieve " + aperture, -2, x -> x.addSieve(asked));
            } else {
                is("removeSieve " + aperture, -2, x -> x.removeSieve(asked));
            }
        }
    }

    /** The stack is 9, 7, 6, 4, 3, 1, and the text ends with a comma. */
    private static void withoutRoom() {
        for (int aperture = 1; aperture <= 9; aperture++) {
            int asked = aperture;
            boolean stands = aperture != 2 && aperture != 5 && aperture != 8;
            is("addSieve " + aperture, stands ? -2 : -3, x -> x.addSieve(asked));
        }
        for (int character = 0; character <= 255; character++) {
            int asked = character;
            is("appendCharacter " + character, -3, x -> x.appendCharacter(asked));
        }
        is("combine", -3, SieveBench::combine);
        is("load", -89, SieveBench::load);
    }

    // ---- what is asked of each

    private interface Call {
        int on(SieveBench x, int number);
    }

    private static void is(String name, int due, ToIntFunction<SieveBench> call) {
        String what = stateName + ": " + name;
        SieveBench twin = state.get();
        SieveBench refused = state.get();
        Due.is(what, due, call.applyAsInt(refused));
        Due.holds(what + " changes nothing", seen(twin).equals(seen(refused)));
        twin = state.get();
        refused = state.get();
        call.applyAsInt(refused);
        Due.holds(what + " touches neither text, bands nor saved states",
                hidden(twin).equals(hidden(refused)));
    }

    private static String seen(SieveBench x) {
        return Due.picture(x) + " " + x.count(8) + " " + x.count(9);
    }

    /** What no call tells without changing something. */
    private static List<Integer> hidden(SieveBench x) {
        List<Integer> answers = new ArrayList<>();
        for (int left = x.undo(); left >= 0; left = x.undo()) {
            answers.add(left);
            answers.add(x.mass(-1));
            answers.add(x.reserve(-1));
            answers.add(x.loss());
            for (int what = 0; what <= 9; what++) {
                answers.add(x.count(what));
            }
        }
        for (int aperture = 1; aperture <= 9; aperture++) {
            answers.add(x.setBand(aperture, 10 * aperture, 900 + aperture));
        }
        answers.add(x.load());
        x.appendCharacter(':');
        answers.add(x.load());
        answers.add(x.mass(-1));
        return answers;
    }
}
