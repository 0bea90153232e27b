import java.util.ArrayDeque;
import java.util.ArrayList;
import java.util.Arrays;
import java.util.Comparator;
import java.util.Deque;
import java.util.List;
import java.util.stream.IntStream;

/** The document written a second time, in another way, to be compared with the class in long runs. */
final class PlainModel {
    private static final class Floor {
        final int aperture;
        final long[] lies = new long[10];
        long stuck;
        long collected;

        Floor(int aperture) {
            this.aperture = aperture;
        }

        Floor twin() {
            Floor twin = new Floor(aperture);
            System.arraycopy(lies, 0, twin.lies, 0, 10);
            twin.stuck = stuck;
            twin.collected = collected;
            return twin;
        }

        long all() {
            return Arrays.stream(lies).sum();
        }

        long open(long c) {
            long open = 1000 - stuck * 1000 / c;
            return open < 100 ? 100 : open;
        }
    }

    private static final class Lab {
        long[] sample = new long[10];
        long[] reserve = new long[10];
        /** The last one is the pan. */
        List<Floor> floors = new ArrayList<>(List.of(new Floor(0)));
        int[] rules = {500, 20, 2, 5};
        int[][] bands = new int[10][];
        /** Total, minutes and flow, or null without an analysis. */
        long[] analysis;
        long dust;

        Lab twin() {
            Lab twin = new Lab();
            twin.sample = sample.clone();
            twin.reserve = reserve.clone();
            twin.floors = new ArrayList<>();
            floors.forEach(f -> twin.floors.add(f.twin()));
            twin.rules = rules.clone();
            twin.bands = bands.clone();
            twin.analysis = analysis == null ? null : analysis.clone();
            twin.dust = dust;
            return twin;
        }

        long minute() {
            long flow = 0;
            for (int i = floors.size() - 2; i >= 0; i--) {
                Floor here = floors.get(i);
                Floor next = floors.get(i + 1);
                long open = here.open(rules[0]);
                for (int k = 0; k < here.aperture; k++) {
                    long ease = Math.min(900, 300L * (here.aperture - k));
                    long m = here.lies[k];
                    long falls = m == 0 ? 0 : Math.max(1, Math.floorDiv(m * open * ease, 1_000_000L));
                    here.lies[k] = m - falls;
                    next.lies[k] += falls;
                    flow += falls;
                }
                long jam = here.lies[here.aperture] * rules[1] / 1000;
                here.lies[here.aperture] -= jam;
                here.stuck += jam;
            }
            Floor pan = floors.get(floors.size() - 1);
            long lost = pan.lies[0] * rules[2] / 1000;
            pan.lies[0] -= lost;
            dust += lost;
            analysis[1]++;
            analysis[2] = flow;
            return flow;
        }

        long lost() {
            return analysis[0] - floors.stream().mapToLong(f -> f.all() + f.stuck + f.collected).sum();
        }

        long sumCollected(int from) {
            return floors.stream().skip(from).mapToLong(f -> f.collected).sum();
        }

        boolean unweighed() {
            return analysis == null || sumCollected(0) == 0;
        }

        long pass(int i) {
            return sumCollected(i + 1) * 1000 / sumCollected(0);
        }

        void restack(List<Integer> apertures) {
            List<Integer> sorted = new ArrayList<>(apertures);
            sorted.sort(Comparator.reverseOrder());
            floors = new ArrayList<>();
            sorted.forEach(a -> floors.add(new Floor(a)));
            floors.add(new Floor(0));
            analysis = null;
        }

        List<Integer> apertures() {
            List<Integer> all = new ArrayList<>();
            floors.stream().limit(floors.size() - 1L).forEach(f -> all.add(f.aperture));
            return all;
        }
    }

    private Lab lab = new Lab();
    private final Deque<Lab> past = new ArrayDeque<>();
    private String text = "";

    PlainModel() {
        Arrays.fill(lab.bands, new int[] {0, 1000});
    }

    private static boolean out(int x, int low, int high) {
        return x < low || x > high;
    }

    private void keep() {
        past.addLast(lab.twin());
        if (past.size() == 7) {
            past.removeFirst();
        }
    }

    private long sum() {
        return Arrays.stream(lab.sample).sum();
    }

    private int pan() {
        return lab.floors.size() - 1;
    }

    /** Call number 0 is setMass, and so on in the order of the face; load comes with number 8. */
    long call(int number, int p, int q, int r, int s) {
        switch (number) {
            case 0: return setMass(p, q);
            case 1: return massOf(lab.sample, p);
            case 2: return massOf(lab.reserve, p);
            case 3: return split(p);
            case 4: return splitTo(p);
            case 5: return combine();
            case 6: return append(p);
            case 7: return clear();
            case 8: return load();
            case 9: return addSieve(p);
            case 10: return removeSieve(p);
            case 11: return setRules(p, q, r, s);
            case 12: return setBand(p, q, r);
            case 13: return count(p);
            case 14: return tray(p, q);
            case 15: return out(p, 0, pan()) || out(q, 0, 9) ? -1 : lab.floors.get(p).lies[q];
            case 16: return charge();
            case 17: return shake(p);
            case 18: return collect(p);
            case 19: return brush(p, q);
            case 20: return lab.analysis == null ? -2 : lab.lost();
            case 21: return lab.analysis == null ? -2
                : lab.lost() * 1000 <= lab.rules[3] * lab.analysis[0] ? 1 : 0;
            case 22: return out(p, 0, pan() - 1) ? -1 : lab.unweighed() ? -2 : lab.pass(p);
            case 23: return lab.unweighed() ? -2 : misses();
            case 24: return lab.unweighed() ? -2
                : IntStream.range(0, pan()).mapToLong(i -> 1000 - lab.pass(i)).sum() / 10;
            case 25: return out(p, 1, 9) ? -1 : sum() == 0 ? -2
                : Arrays.stream(lab.sample).limit(p).sum() * 1000 / sum();
            case 26: return minutesTo(p);
            case 27: return dustIn(p);
            default: return undo();
        }
    }

    private long setMass(int size, int mass) {
        if (out(size, 0, 9) || out(mass, 0, 9999)) {
            return -1;
        }
        keep();
        long before = lab.sample[size];
        lab.sample[size] = mass;
        return before;
    }

    private static long massOf(long[] row, int size) {
        return out(size, -1, 9) ? -1 : size == -1 ? Arrays.stream(row).sum() : row[size];
    }

    private long split(int part) {
        if (out(part, 0, 1)) {
            return -1;
        }
        if (sum() == 0) {
            return -2;
        }
        keep();
        divide(part);
        return sum();
    }

    private void divide(int part) {
        int odd = 0;
        for (int k = 0; k < 10; k++) {
            long m = lab.sample[k];
            long[] parts = {m / 2, m / 2};
            if (m % 2 == 1) {
                parts[odd++ % 2]++;
            }
            lab.sample[k] = parts[part];
            lab.reserve[k] += parts[1 - part];
        }
    }

    private long splitTo(int most) {
        if (out(most, 1, 9999)) {
            return -1;
        }
        keep();
        long n = 0;
        for (; sum() > most; n++) {
            divide(0);
        }
        return n;
    }

    private long combine() {
        if (IntStream.range(0, 10).anyMatch(k -> lab.sample[k] + lab.reserve[k] > 9999)) {
            return -3;
        }
        keep();
        for (int k = 0; k < 10; k++) {
            lab.sample[k] += lab.reserve[k];
        }
        lab.reserve = new long[10];
        return sum();
    }

    private long append(int character) {
        if (out(character, 0, 255)) {
            return -1;
        }
        if (text.length() == 80) {
            return -3;
        }
        text += (char) character;
        return text.length();
    }

    private long clear() {
        int before = text.length();
        text = "";
        return before;
    }

    /** A machine that looks at each character once: what may come next is its state. */
    private long load() {
        long[] read = new long[10];
        boolean[] seen = new boolean[10];
        String next = "first";
        int size = 0;
        String digits = "";
        for (int i = 0; i < text.length(); i++) {
            char c = text.charAt(i);
            boolean digit = c >= '0' && c <= '9';
            boolean inMass = next.equals("mass") && !digits.isEmpty();
            if (c == ' ') {
                next = inMass ? "comma" : next;
            } else if ((next.equals("first") || next.equals("class")) && digit && !seen[c - '0']) {
                size = c - '0';
                seen[size] = true;
                next = "colon";
            } else if (next.equals("colon") && c == ':') {
                next = "mass";
                digits = "";
            } else if (next.equals("mass") && digit) {
                digits += c;
                if (digits.length() > 4 || digits.length() > 1 && digits.startsWith("0")) {
                    return -10 - (i - digits.length() + 1);
                }
                read[size] = Long.parseLong(digits);
            } else if ((next.equals("comma") || inMass) && c == ',') {
                next = "class";
            } else {
                return -10 - i;
            }
        }
        boolean whole = next.equals("first") || next.equals("comma") || next.equals("mass") && !digits.isEmpty();
        if (!whole) {
            return -10 - text.length();
        }
        keep();
        lab.sample = read;
        text = "";
        return sum();
    }

    private long addSieve(int aperture) {
        List<Integer> all = lab.apertures();
        if (out(aperture, 1, 9)) {
            return -1;
        }
        if (all.contains(aperture)) {
            return -2;
        }
        if (all.size() == 6) {
            return -3;
        }
        keep();
        all.add(aperture);
        lab.restack(all);
        return lab.apertures().indexOf(aperture);
    }

    private long removeSieve(int aperture) {
        List<Integer> all = lab.apertures();
        if (out(aperture, 1, 9)) {
            return -1;
        }
        if (!all.contains(aperture)) {
            return -2;
        }
        keep();
        all.remove(Integer.valueOf(aperture));
        lab.restack(all);
        return all.size();
    }

    private long setRules(int c, int b, int e, int g) {
        if (out(c, 1, 9999) || out(b, 0, 200) || out(e, 0, 100) || out(g, 0, 100)) {
            return -1;
        }
        keep();
        int[] rules = {c, b, e, g};
        boolean same = Arrays.equals(rules, lab.rules);
        lab.rules = rules;
        return same ? 0 : 1;
    }

    private long setBand(int aperture, int lowest, int highest) {
        if (out(aperture, 1, 9) || out(lowest, 0, 1000) || out(highest, lowest, 1000)) {
            return -1;
        }
        keep();
        int[] band = {lowest, highest};
        boolean same = Arrays.equals(band, lab.bands[aperture]);
        lab.bands[aperture] = band;
        return same ? 0 : 1;
    }

    private long count(int what) {
        if (out(what, 0, 9)) {
            return -1;
        }
        long[] a = lab.analysis == null ? new long[3] : lab.analysis;
        long[] all = {pan(), lab.rules[0], lab.rules[1], lab.rules[2], lab.rules[3],
            lab.analysis == null ? 0 : 1, a[1], a[2], text.length(), past.size()};
        return all[what];
    }

    private long tray(int tray, int what) {
        if (out(tray, 0, pan()) || out(what, 0, 4)) {
            return -1;
        }
        Floor f = lab.floors.get(tray);
        return new long[] {f.aperture, f.all(), f.stuck, f.collected, f.open(lab.rules[0])}[what];
    }

    private long charge() {
        long total = sum();
        if (pan() == 0 || total == 0) {
            return -2;
        }
        keep();
        lab.restack(lab.apertures());
        lab.analysis = new long[] {total, 0, 0};
        System.arraycopy(lab.sample, 0, lab.floors.get(0).lies, 0, 10);
        lab.sample = new long[10];
        return total;
    }

    private long shake(int minutes) {
        if (out(minutes, 1, 200)) {
            return -1;
        }
        if (lab.analysis == null) {
            return -2;
        }
        keep();
        return IntStream.range(0, minutes).mapToLong(i -> lab.minute()).sum();
    }

    private long collect(int tray) {
        if (out(tray, 0, pan())) {
            return -1;
        }
        if (lab.analysis == null) {
            return -2;
        }
        keep();
        Floor f = lab.floors.get(tray);
        long all = f.all();
        f.collected += all;
        Arrays.fill(f.lies, 0);
        return all;
    }

    private long brush(int tray, int saved) {
        if (out(tray, 0, pan() - 1) || out(saved, 0, 1)) {
            return -1;
        }
        if (lab.analysis == null) {
            return -2;
        }
        keep();
        Floor f = lab.floors.get(tray);
        long freed = f.stuck;
        f.collected += saved * freed;
        f.stuck = 0;
        return freed;
    }

    private long misses() {
        return IntStream.range(0, pan()).filter(i -> {
            int[] band = lab.bands[lab.floors.get(i).aperture];
            return lab.pass(i) < band[0] || lab.pass(i) > band[1];
        }).count();
    }

    private long minutesTo(int flow) {
        if (out(flow, 1, 9999)) {
            return -1;
        }
        if (lab.analysis == null) {
            return -2;
        }
        Lab copy = lab.twin();
        return IntStream.rangeClosed(1, 500).filter(i -> copy.minute() < flow).findFirst().orElse(-9);
    }

    private long dustIn(int minutes) {
        if (out(minutes, 1, 500)) {
            return -1;
        }
        if (lab.analysis == null) {
            return -2;
        }
        Lab copy = lab.twin();
        IntStream.range(0, minutes).forEach(i -> copy.minute());
        return copy.dust - lab.dust;
    }

    private long undo() {
        if (past.isEmpty()) {
            return -2;
        }
        lab = past.removeLast();
        return past.size();
    }
}
