import java.util.HashMap;
import java.util.Map;
import java.util.regex.Matcher;
import java.util.regex.Pattern;

/** Promise 10 and the section "Text": all short texts, and all small faults in longer ones. */
final class TextTest {
    private static final String PAIR = " *([0-9]) *: *(0(?![0-9])|[1-9][0-9]{0,3}(?![0-9])) *";
    private static final Pattern GRAMMAR = Pattern.compile(" *|" + PAIR + "(," + PAIR + ")*");
    private static final Pattern ONE_PAIR = Pattern.compile(PAIR);
    private static final Pattern BEGUN_PAIR = Pattern.compile("(?:^|,) *([0-9])");
    private static final Pattern BEGUN_MASS = Pattern.compile(": *([0-9]+)");
    /** Each object is used for 512 calls at most. */
    private static final int CALLS = 512;

    private static SieveBench bench;
    private static int calls;

    public static void main(String[] args) {
        allTexts("", 7, " 01:,x");
        allTexts("1:1", 6, " 01:,2");
        allTexts("2:0,", 5, " 029:,");
        allTexts("0:999", 4, " 019:,");
        String[] texts = {"0:9999,1:9999", " 3 : 40 , 5 : 0 , 9 : 1234 ", "1:5,2:6,3:7,1:8", "7:1000", "0:0",
            "9:9,8:8,7:7,6:6,5:5,4:4,3:3,2:2,1:1,0:0"};
        for (String text : texts) {
            smallFaults(text);
        }
        fullTexts();
        Due.close();
    }

    private static void allTexts(String text, int more, String signs) {
        ask(text);
        for (int i = 0; more > 0 && i < signs.length(); i++) {
            allTexts(text + signs.charAt(i), more - 1, signs);
        }
    }

    /** One character more, one less, or another one, at each place; each of the 256 there are. */
    private static void smallFaults(String text) {
        for (int at = 0; at <= text.length(); at++) {
            String before = text.substring(0, at);
            for (char sign = 0; sign <= 255; sign++) {
                ask(before + sign + text.substring(at));
                if (at < text.length()) {
                    ask(before + sign + text.substring(at + 1));
                }
            }
            ask(before);
            if (at < text.length()) {
                ask(before + text.substring(at + 1));
            }
        }
    }

    /** Of 80 characters: the error position may be 80, where nothing can stand. */
    private static void fullTexts() {
        String most = Due.FULL_SAMPLE;
        ask(most + " ".repeat(80 - most.length()));
        ask(" ".repeat(80 - most.length()) + most);
        ask(most + " ".repeat(79 - most.length()) + ",");
        ask(most + " ".repeat(79 - most.length()) + "9");
        ask(most + ",".repeat(80 - most.length()));
        ask(" ".repeat(80));
        ask("1".repeat(80));
        ask("1:" + "1".repeat(78));
        ask("1:" + "0".repeat(78));
        for (String end : new String[] {"1", "1:", "1:5", "1:5,", "x", "1:05", "1:00", "1:12345", "1:1,1", "1:1,1:"}) {
            ask(" ".repeat(80 - end.length()) + end);
        }
    }

    private static void ask(String text) {
        if (bench == null || calls + 20 + text.length() > CALLS) {
            bench = new SieveBench();
            calls = 0;
        }
        bench.clearText();
        bench.setMass(4, 77);
        bench.setMass(6, 0);
        int[] before = new int[10];
        for (int size = 0; size <= 9; size++) {
            before[size] = bench.mass(size);
        }
        Due.type(bench, text);
        calls += 3 + 10 + text.length();
        int error = errorPosition(text);
        int got = bench.load();
        if (error < 0) {
            Map<Integer, Integer> pairs = pairs(text);
            int sum = pairs.values().stream().mapToInt(mass -> mass).sum();
            Due.is("load of '" + text + "'", sum, got);
            int size = text.length() % 10;
            Due.is("class " + size + " of '" + text + "'", pairs.getOrDefault(size, 0), bench.mass(size));
            Due.is("the text is empty after '" + text + "'", 0, bench.count(8));
        } else {
            Due.is("load of '" + text + "'", -10 - error, got);
            int size = text.length() % 10;
            Due.is("class " + size + " stays", before[size], bench.mass(size));
            Due.is("the text stays", text.length(), bench.count(8));
        }
        calls += 3;
    }

    private static Map<Integer, Integer> pairs(String text) {
        Map<Integer, Integer> pairs = new HashMap<>();
        Matcher pair = ONE_PAIR.matcher(text);
        while (pair.find()) {
            pairs.put(Integer.valueOf(pair.group(1)), Integer.valueOf(pair.group(2)));
        }
        return pairs;
    }

    /** -1, or the end of the longest beginning that could go on to a text, moved to where the document puts it. */
    private static int errorPosition(String text) {
        int position = grammarError(text);
        int twice = secondOfAClass(text.substring(0, Math.min(text.length(), position < 0 ? text.length() : position)));
        if (twice >= 0) {
            return twice;
        }
        return position;
    }

    private static int grammarError(String text) {
        for (int end = 1; end <= text.length(); end++) {
            String beginning = text.substring(0, end);
            if (!isText(beginning) && !canGoOn(beginning)) {
                return beginOfMass(beginning);
            }
        }
        return isText(text) ? -1 : text.length();
    }

    private static boolean isText(String text) {
        return GRAMMAR.matcher(text).matches();
    }

    private static boolean canGoOn(String beginning) {
        return isText(beginning + "0") || isText(beginning + ":0") || isText(beginning + "0:0");
    }

    /** A wrong mass is told by its first digit, anything else by the character itself. */
    private static int beginOfMass(String beginning) {
        int last = beginning.length() - 1;
        Matcher mass = BEGUN_MASS.matcher(beginning);
        while (mass.find()) {
            if (mass.end() == beginning.length() && mass.start(1) < last) {
                return mass.start(1);
            }
        }
        return last;
    }

    private static int secondOfAClass(String text) {
        boolean[] seen = new boolean[10];
        Matcher begun = BEGUN_PAIR.matcher(text);
        while (begun.find()) {
            int size = Integer.parseInt(begun.group(1));
            if (seen[size]) {
                return begun.start(1);
            }
            seen[size] = true;
        }
        return -1;
    }
}
