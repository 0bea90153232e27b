/** Counts and prints the answers that are not as due. */
final class Due {
    /** The greatest mass of every class, in 69 characters. */
    static final String FULL_SAMPLE =
        "0:9999,1:9999,2:9999,3:9999,4:9999,5:9999,6:9999,7:9999,8:9999,9:9999";

    private static int wrong = 0;
    private static int asked = 0;

    private Due() { }

    static void is(String what, long want, long got) {
        asked++;
        if (want != got) {
            wrong++;
            System.out.println(what + " answered " + got + ", due is " + want);
        }
    }

    static void holds(String what, boolean held) {
        is(what, 1, held ? 1 : 0);
    }

    /** Appends all the characters of a text. */
    static void type(SieveBench bench, String text) {
        for (int i = 0; i < text.length(); i++) {
            bench.appendCharacter(text.charAt(i));
        }
    }

    /** Types a text onto an empty one, and loads it. */
    static int load(SieveBench bench, String text) {
        bench.clearText();
        type(bench, text);
        return bench.load();
    }

    /** An analysis of a sample on a stack, not shaken yet. */
    static SieveBench charged(String sample, int... apertures) {
        SieveBench x = new SieveBench();
        load(x, sample);
        for (int aperture : apertures) {
            x.addSieve(aperture);
        }
        x.charge();
        return x;
    }

    /** Every answer about the present state except the text's length and the saved states. */
    static String picture(SieveBench bench) {
        StringBuilder all = new StringBuilder();
        for (int size = 0; size <= 9; size++) {
            all.append(bench.mass(size)).append(' ').append(bench.reserve(size)).append(' ');
        }
        for (int what = 0; what <= 7; what++) {
            all.append(bench.count(what)).append(' ');
        }
        for (int tray = 0; tray <= bench.count(0); tray++) {
            for (int what = 0; what <= 4; what++) {
                all.append(bench.tray(tray, what)).append(' ');
            }
            for (int size = 0; size <= 9; size++) {
                all.append(bench.on(tray, size)).append(' ');
            }
            all.append(bench.passing(tray)).append(' ');
        }
        all.append(bench.loss()).append(' ').append(bench.isGood()).append(' ');
        all.append(bench.misses()).append(' ').append(bench.modulus());
        return all.toString();
    }

    static void close() {
        System.out.println(asked + " answers, " + wrong + " not as due");
        if (wrong != 0) {
            System.exit(1);
        }
    }
}
