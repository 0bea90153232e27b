import java.lang.reflect.Field;

/**
 * Promise 28: NONE if the flow would not be less within 500 minutes.
 * No run of calls can meet it (longestPossibleFlow shows why), so a mass that no call
 * can set is put onto the sieve by hand here.
 */
final class ForecastLimitTest {
    public static void main(String[] args) throws ReflectiveOperationException {
        longestPossibleFlow();
        limitOfFiveHundredMinutes();
        noneOnlyWithoutAnError();
        Due.close();
    }

    /** No openness is less than 100, and a sieve that is less open never empties sooner. */
    private static void longestPossibleFlow() {
        int longest = 0;
        for (int stack = 1; stack < 1 << 9; stack++) {
            if (Integer.bitCount(stack) <= 6) {
                for (int size = 0; size <= 9; size++) {
                    longest = Math.max(longest, minutesToRest(stack, size));
                }
            }
        }
        Due.is("no stack flows longer", 317, longest);
        SieveBench x = blindedStack();
        Due.holds("nor does the class", x.minutesTo(1) > 200 && x.minutesTo(1) <= longest);
    }

    /** For 9999 of a class on the highest sieve, when each one has an openness of 100. */
    private static int minutesToRest(int stack, int size) {
        int[] apertures = new int[Integer.bitCount(stack)];
        int sieves = 0;
        for (int aperture = 9; aperture >= 1; aperture--) {
            if ((stack >> (aperture - 1) & 1) == 1) {
                apertures[sieves] = aperture;
                sieves++;
            }
        }
        int[] lying = new int[sieves + 1];
        lying[0] = 9999;
        int minutes = 0;
        boolean flows = true;
        while (flows) {
            flows = false;
            minutes++;
            for (int sieve = sieves - 1; sieve >= 0; sieve--) {
                if (size < apertures[sieve] && lying[sieve] > 0) {
                    int ease = Math.min(900, 300 * (apertures[sieve] - size));
                    int falls = Math.max(1, lying[sieve] * ease / 10000);
                    lying[sieve] -= falls;
                    lying[sieve + 1] += falls;
                    flows = true;
                }
            }
        }
        return minutes;
    }

    private static SieveBench blindedStack() {
        SieveBench x = new SieveBench();
        Due.load(x, "0:9999,1:9999,2:9999,3:9999,4:9999,5:9999,6:9999");
        x.setRules(1, 5, 0, 0);
        for (int aperture = 6; aperture >= 1; aperture--) {
            x.addSieve(aperture);
        }
        x.charge();
        return x;
    }

    /** A sieve of aperture 1 with an openness of 100, and a mass of class 0 on it that no call can set. */
    private static SieveBench withMass(int mass) throws ReflectiveOperationException {
        SieveBench x = new SieveBench();
        Due.load(x, "1:10");
        x.setRules(1, 200, 0, 0);
        x.addSieve(1);
        x.charge();
        x.shake(1);
        Due.is("openness", 100, x.tray(0, 4));
        Object state = inside(SieveBench.class, x, "state");
        Object[] trays = (Object[]) inside(state.getClass(), state, "trays");
        int[] lying = (int[]) inside(trays[0].getClass(), trays[0], "lying");
        lying[0] = mass;
        Due.is("the mass lies there", mass, x.on(0, 0));
        return x;
    }

    private static Object inside(Class<?> type, Object holder, String name) throws ReflectiveOperationException {
        Field field = type.getDeclaredField(name);
        field.setAccessible(true);
        return field.get(holder);
    }

    /** The greatest mass that flows in no more than so many minutes, at 3 of 100 and at least 1 a minute. */
    private static int greatestFor(int minutes) {
        int low = 0;
        int high = 1 << 30;
        while (low < high) {
            int middle = low + (high - low + 1) / 2;
            long left = middle;
            for (int minute = 0; minute < minutes; minute++) {
                left -= left == 0 ? 0 : Math.max(1, left * 3 / 100);
            }
            if (left == 0) {
                low = middle;
            } else {
                high = middle - 1;
            }
        }
        return low;
    }

    private static void limitOfFiveHundredMinutes() throws ReflectiveOperationException {
        // The minute after the last one that flows is the first with a flow less than 1.
        Due.is("500", 500, withMass(greatestFor(499)).minutesTo(1));
        SieveBench more = withMass(greatestFor(499) + 1);
        Due.is("501 would be needed", -9, more.minutesTo(1));
        // The last 66 units fall one by one, in the minutes 435 to 500.
        Due.is("a flow of 1 comes sooner", 435, more.minutesTo(2));
        more.shake(1);
        Due.is("one minute later", 500, more.minutesTo(1));
    }

    private static void noneOnlyWithoutAnError() throws ReflectiveOperationException {
        SieveBench x = withMass(greatestFor(520));
        Due.is("none", -9, x.minutesTo(1));
        Due.is("argument first", -1, x.minutesTo(0));
        Due.is("none changes nothing", 1, x.count(6));
        x.addSieve(2);
        Due.is("no analysis", -2, x.minutesTo(1));
    }
}
