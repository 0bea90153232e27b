/** A bench for sieve analysis; ../shared/DOC.md says what each method promises. */
public final class SieveBench {
    public static final int INVALID_ARGUMENT = -1;
    public static final int ILLEGAL_STATE = -2;
    public static final int CAPACITY_EXCEEDED = -3;
    public static final int NONE = -9;

    private static final int CLASSES = 10;
    private static final int MOST_MASS = 9999;
    private static final int MOST_APERTURE = 9;
    private static final int MOST_SIEVES = 6;
    private static final int MOST_CAPACITY = 9999;
    private static final int MOST_BLINDING = 200;
    private static final int MOST_DUST_RATE = 100;
    private static final int MOST_TOLERANCE = 100;
    private static final int LEAST_OPENNESS = 100;
    private static final int THOUSAND = 1000;
    private static final int MILLION = 1000000;
    private static final int MOST_SHAKING = 200;
    private static final int MOST_FORECAST = 500;
    private static final int MOST_FLOW = 9999;
    private static final int MOST_TEXT = 80;
    private static final int MOST_DIGITS = 4;
    private static final int MOST_CHARACTER = 255;
    private static final int MOST_SAVED = 6;
    private static final int MOST_SPLITTINGS = 100;
    private static final int ALL_CLASSES = -1;
    private static final int NO_TEXT_ERROR = -1;
    private static final int TEXT_ERROR_BASE = -10;

    private final State state = new State();
    private final State forecast = new State();
    private final State[] saved = new State[MOST_SAVED];
    private final SampleText text = new SampleText();
    private int nextSlot;
    private int savedStates;

    /** Makes every row that a later call needs, so that no call makes an object. */
    public SieveBench() {
        for (int slot = 0; slot < MOST_SAVED; slot++) {
            saved[slot] = new State();
        }
    }

    // ---- samples

    public int setMass(int size, int mass) {
        if (!isClass(size) || !isIn(mass, 0, MOST_MASS)) {
            return INVALID_ARGUMENT;
        }
        saveState();
        int previous = state.sample[size];
        state.sample[size] = mass;
        return previous;
    }

    public int mass(int size) {
        return massIn(state.sample, size);
    }

    public int reserve(int size) {
        return massIn(state.reserved, size);
    }

    public int split(int part) {
        if (!isIn(part, 0, 1)) {
            return INVALID_ARGUMENT;
        }
        if (sumOf(state.sample) == 0) {
            return ILLEGAL_STATE;
        }
        saveState();
        state.halveSample(part == 0);
        return sumOf(state.sample);
    }

    public int splitTo(int most) {
        if (!isIn(most, 1, MOST_MASS)) {
            return INVALID_ARGUMENT;
        }
        saveState();
        int splittings = 0;
        while (splittings < MOST_SPLITTINGS && sumOf(state.sample) > most) {
            state.halveSample(true);
            splittings++;
        }
        return splittings;
    }

    public int combine() {
        for (int size = 0; size < CLASSES; size++) {
            if (state.sample[size] + state.reserved[size] > MOST_MASS) {
                return CAPACITY_EXCEEDED;
            }
        }
        saveState();
        for (int size = 0; size < CLASSES; size++) {
            state.sample[size] += state.reserved[size];
            state.reserved[size] = 0;
        }
        return sumOf(state.sample);
    }

    public int appendCharacter(int character) {
        if (!isIn(character, 0, MOST_CHARACTER)) {
            return INVALID_ARGUMENT;
        }
        if (text.length >= MOST_TEXT) {
            return CAPACITY_EXCEEDED;
        }
        text.signs[text.length] = (char) character;
        text.length++;
        return text.length;
    }

    public int clearText() {
        int previous = text.length;
        text.length = 0;
        return previous;
    }

    public int load() {
        int error = text.readPairs();
        if (error != NO_TEXT_ERROR) {
            return TEXT_ERROR_BASE - error;
        }
        saveState();
        copyRow(text.masses, state.sample);
        text.length = 0;
        return sumOf(state.sample);
    }

    // ---- stack

    public int addSieve(int aperture) {
        if (!isIn(aperture, 1, MOST_APERTURE)) {
            return INVALID_ARGUMENT;
        }
        if (state.findSieve(aperture) != NONE) {
            return ILLEGAL_STATE;
        }
        if (state.sieves >= MOST_SIEVES) {
            return CAPACITY_EXCEEDED;
        }
        saveState();
        state.endAnalysis();
        return state.insertSieve(aperture);
    }

    public int removeSieve(int aperture) {
        if (!isIn(aperture, 1, MOST_APERTURE)) {
            return INVALID_ARGUMENT;
        }
        int number = state.findSieve(aperture);
        if (number == NONE) {
            return ILLEGAL_STATE;
        }
        saveState();
        state.endAnalysis();
        state.takeSieve(number);
        return state.sieves;
    }

    public int setRules(int c, int b, int e, int g) {
        if (!isIn(c, 1, MOST_CAPACITY) || !isIn(b, 0, MOST_BLINDING)
                || !isIn(e, 0, MOST_DUST_RATE) || !isIn(g, 0, MOST_TOLERANCE)) {
            return INVALID_ARGUMENT;
        }
        saveState();
        boolean same = state.capacity == c && state.blinding == b
                && state.dustRate == e && state.tolerance == g;
        state.capacity = c;
        state.blinding = b;
        state.dustRate = e;
        state.tolerance = g;
        return same ? 0 : 1;
    }

    public int setBand(int aperture, int lowest, int highest) {
        if (!isIn(aperture, 1, MOST_APERTURE) || !isIn(lowest, 0, THOUSAND)
                || !isIn(highest, lowest, THOUSAND)) {
            return INVALID_ARGUMENT;
        }
        saveState();
        boolean same = state.lowest[aperture] == lowest && state.highest[aperture] == highest;
        state.lowest[aperture] = lowest;
        state.highest[aperture] = highest;
        return same ? 0 : 1;
    }

    public int count(int what) {
        switch (what) {
            case 0: return state.sieves;
            case 1: return state.capacity;
            case 2: return state.blinding;
            case 3: return state.dustRate;
            case 4: return state.tolerance;
            case 5: return state.inAnalysis ? 1 : 0;
            case 6: return state.minutes;
            case 7: return state.flow;
            case 8: return text.length;
            case 9: return savedStates;
            default: return INVALID_ARGUMENT;
        }
    }

    public int tray(int tray, int what) {
        if (!state.isTray(tray)) {
            return INVALID_ARGUMENT;
        }
        Tray asked = state.trays[tray];
        switch (what) {
            case 0: return asked.aperture;
            case 1: return sumOf(asked.lying);
            case 2: return asked.stuck;
            case 3: return asked.collected;
            case 4: return asked.openness(state.capacity);
            default: return INVALID_ARGUMENT;
        }
    }

    public int on(int tray, int size) {
        if (!state.isTray(tray) || !isClass(size)) {
            return INVALID_ARGUMENT;
        }
        return state.trays[tray].lying[size];
    }

    // ---- analysis

    public int charge() {
        int total = sumOf(state.sample);
        if (state.sieves == 0 || total == 0) {
            return ILLEGAL_STATE;
        }
        saveState();
        state.endAnalysis();
        state.beginAnalysis(total);
        return total;
    }

    public int shake(int minutes) {
        if (!isIn(minutes, 1, MOST_SHAKING)) {
            return INVALID_ARGUMENT;
        }
        if (!state.inAnalysis) {
            return ILLEGAL_STATE;
        }
        saveState();
        int fallen = 0;
        for (int minute = 0; minute < minutes; minute++) {
            fallen += state.shakeOneMinute();
        }
        return fallen;
    }

    public int collect(int tray) {
        if (!state.isTray(tray)) {
            return INVALID_ARGUMENT;
        }
        if (!state.inAnalysis) {
            return ILLEGAL_STATE;
        }
        saveState();
        Tray emptied = state.trays[tray];
        int found = sumOf(emptied.lying);
        emptied.collected += found;
        clearRow(emptied.lying);
        return found;
    }

    public int brush(int tray, int saved) {
        if (!state.isSieve(tray) || !isIn(saved, 0, 1)) {
            return INVALID_ARGUMENT;
        }
        if (!state.inAnalysis) {
            return ILLEGAL_STATE;
        }
        saveState();
        Tray brushed = state.trays[tray];
        int freed = brushed.stuck;
        brushed.stuck = 0;
        if (saved == 1) {
            brushed.collected += freed;
        }
        return freed;
    }

    public int loss() {
        if (!state.inAnalysis) {
            return ILLEGAL_STATE;
        }
        return state.lostMass();
    }

    public int isGood() {
        if (!state.inAnalysis) {
            return ILLEGAL_STATE;
        }
        return state.lostMass() * THOUSAND <= state.tolerance * state.total ? 1 : 0;
    }

    public int passing(int tray) {
        if (!state.isSieve(tray)) {
            return INVALID_ARGUMENT;
        }
        if (!state.hasCollected()) {
            return ILLEGAL_STATE;
        }
        return state.passingOf(tray);
    }

    public int misses() {
        if (!state.hasCollected()) {
            return ILLEGAL_STATE;
        }
        int outside = 0;
        for (int sieve = 0; sieve < state.sieves; sieve++) {
            int aperture = state.trays[sieve].aperture;
            if (!isIn(state.passingOf(sieve), state.lowest[aperture], state.highest[aperture])) {
                outside++;
            }
        }
        return outside;
    }

    public int modulus() {
        if (!state.hasCollected()) {
            return ILLEGAL_STATE;
        }
        int retained = 0;
        for (int sieve = 0; sieve < state.sieves; sieve++) {
            retained += THOUSAND - state.passingOf(sieve);
        }
        return retained / 10;
    }

    public int truePassing(int aperture) {
        if (!isIn(aperture, 1, MOST_APERTURE)) {
            return INVALID_ARGUMENT;
        }
        int all = sumOf(state.sample);
        if (all == 0) {
            return ILLEGAL_STATE;
        }
        int fine = 0;
        for (int size = 0; size < aperture; size++) {
            fine += state.sample[size];
        }
        return perThousand(fine, all);
    }

    public int minutesTo(int flow) {
        if (!isIn(flow, 1, MOST_FLOW)) {
            return INVALID_ARGUMENT;
        }
        if (!state.inAnalysis) {
            return ILLEGAL_STATE;
        }
        forecast.copyFrom(state);
        for (int minute = 1; minute <= MOST_FORECAST; minute++) {
            if (forecast.shakeOneMinute() < flow) {
                return minute;
            }
        }
        return NONE;
    }

    public int dustIn(int minutes) {
        if (!isIn(minutes, 1, MOST_FORECAST)) {
            return INVALID_ARGUMENT;
        }
        if (!state.inAnalysis) {
            return ILLEGAL_STATE;
        }
        forecast.copyFrom(state);
        for (int minute = 0; minute < minutes; minute++) {
            forecast.shakeOneMinute();
        }
        // Shaking loses nothing but dust, so what the loss grows by is the dust.
        return forecast.lostMass() - state.lostMass();
    }

    public int undo() {
        if (savedStates == 0) {
            return ILLEGAL_STATE;
        }
        nextSlot = nextSlot == 0 ? MOST_SAVED - 1 : nextSlot - 1;
        state.copyFrom(saved[nextSlot]);
        savedStates--;
        return savedStates;
    }

    /** The saved states stand in a ring, so that a seventh takes the place of the oldest. */
    private void saveState() {
        saved[nextSlot].copyFrom(state);
        nextSlot = nextSlot == MOST_SAVED - 1 ? 0 : nextSlot + 1;
        if (savedStates < MOST_SAVED) {
            savedStates++;
        }
    }

    private static boolean isIn(int number, int lowest, int highest) {
        return number >= lowest && number <= highest;
    }

    private static boolean isClass(int size) {
        return isIn(size, 0, CLASSES - 1);
    }

    private static int massIn(int[] masses, int size) {
        if (size == ALL_CLASSES) {
            return sumOf(masses);
        }
        return isClass(size) ? masses[size] : INVALID_ARGUMENT;
    }

    private static int sumOf(int[] masses) {
        int sum = 0;
        for (int mass : masses) {
            sum += mass;
        }
        return sum;
    }

    private static void clearRow(int[] row) {
        for (int place = 0; place < row.length; place++) {
            row[place] = 0;
        }
    }

    private static void copyRow(int[] from, int[] to) {
        System.arraycopy(from, 0, to, 0, Math.min(from.length, to.length));
    }

    private static int perThousand(int part, int whole) {
        return whole > 0 ? part * THOUSAND / whole : 0;
    }

    /** A sieve or the pan: what lies on it, and what it has held and given since the charge. */
    private static final class Tray {
        final int[] lying = new int[CLASSES];
        /** 0 for the pan, and for a tray that is not in the stack. */
        int aperture;
        int stuck;
        int collected;

        void copyFrom(Tray other) {
            copyRow(other.lying, lying);
            aperture = other.aperture;
            stuck = other.stuck;
            collected = other.collected;
        }

        void throwAway() {
            clearRow(lying);
            stuck = 0;
            collected = 0;
        }

        int openness(int capacity) {
            return Math.max(LEAST_OPENNESS, THOUSAND - perThousand(stuck, capacity));
        }

        /** Lets one minute's grains fall, and answers their mass. */
        int dropOnto(Tray below, int capacity) {
            int openness = openness(capacity);
            int fallen = 0;
            for (int size = 0; size < aperture; size++) {
                int falling = fallingOf(lying[size], openness, easeOf(aperture - size));
                lying[size] -= falling;
                below.lying[size] += falling;
                fallen += falling;
            }
            return fallen;
        }

        void blind(int blinding) {
            int caught = lying[aperture] * blinding / THOUSAND;
            lying[aperture] -= caught;
            stuck += caught;
        }

        /** In long, because 9999 * 1000 * 900 is more than an int holds. */
        private static int fallingOf(int mass, int openness, int ease) {
            if (mass == 0) {
                return 0;
            }
            return (int) Math.max(1L, (long) mass * openness * ease / MILLION);
        }

        private static int easeOf(int finerBy) {
            switch (finerBy) {
                case 1: return 300;
                case 2: return 600;
                default: return 900;
            }
        }
    }

    /** All that undo() restores: everything but the text. */
    private static final class State {
        final int[] sample = new int[CLASSES];
        final int[] reserved = new int[CLASSES];
        /** The sieves from above, then the pan, then trays that are not in the stack. */
        final Tray[] trays = new Tray[MOST_SIEVES + 1];
        /** The bands, by aperture; place 0 stands empty. */
        final int[] lowest = new int[MOST_APERTURE + 1];
        final int[] highest = new int[MOST_APERTURE + 1];
        int sieves;
        int capacity = 500;
        int blinding = 20;
        int dustRate = 2;
        int tolerance = 5;
        boolean inAnalysis;
        int total;
        int minutes;
        int flow;

        State() {
            for (int number = 0; number <= MOST_SIEVES; number++) {
                trays[number] = new Tray();
            }
            for (int aperture = 1; aperture <= MOST_APERTURE; aperture++) {
                highest[aperture] = THOUSAND;
            }
        }

        void copyFrom(State other) {
            copyRow(other.sample, sample);
            copyRow(other.reserved, reserved);
            for (int number = 0; number <= MOST_SIEVES; number++) {
                trays[number].copyFrom(other.trays[number]);
            }
            copyRow(other.lowest, lowest);
            copyRow(other.highest, highest);
            sieves = other.sieves;
            capacity = other.capacity;
            blinding = other.blinding;
            dustRate = other.dustRate;
            tolerance = other.tolerance;
            inAnalysis = other.inAnalysis;
            total = other.total;
            minutes = other.minutes;
            flow = other.flow;
        }

        boolean isTray(int number) {
            return isIn(number, 0, sieves);
        }

        boolean isSieve(int number) {
            return isIn(number, 0, sieves - 1);
        }

        void halveSample(boolean leftStays) {
            boolean oddUnitToLeft = true;
            for (int size = 0; size < CLASSES; size++) {
                int left = sample[size] / 2;
                int right = left;
                if (sample[size] % 2 != 0) {
                    left += oddUnitToLeft ? 1 : 0;
                    right += oddUnitToLeft ? 0 : 1;
                    oddUnitToLeft = !oddUnitToLeft;
                }
                sample[size] = leftStays ? left : right;
                reserved[size] += leftStays ? right : left;
            }
        }

        int findSieve(int aperture) {
            for (int number = 0; number < sieves; number++) {
                if (trays[number].aperture == aperture) {
                    return number;
                }
            }
            return NONE;
        }

        /** There is room for it, no such sieve yet, and nothing on the trays. */
        int insertSieve(int aperture) {
            int number = sieves;
            while (number > 0 && trays[number - 1].aperture < aperture) {
                trays[number].aperture = trays[number - 1].aperture;
                number--;
            }
            trays[number].aperture = aperture;
            sieves++;
            return number;
        }

        /** The pan's aperture 0 moves up with the sieves below the one that goes. */
        void takeSieve(int number) {
            for (int moved = number; moved < sieves; moved++) {
                trays[moved].aperture = trays[moved + 1].aperture;
            }
            sieves--;
        }

        void endAnalysis() {
            for (int number = 0; number <= MOST_SIEVES; number++) {
                trays[number].throwAway();
            }
            inAnalysis = false;
            total = 0;
            minutes = 0;
            flow = 0;
        }

        void beginAnalysis(int charged) {
            copyRow(sample, trays[0].lying);
            clearRow(sample);
            inAnalysis = true;
            total = charged;
        }

        /** Answers the flow of the minute. */
        int shakeOneMinute() {
            flow = 0;
            for (int number = sieves - 1; number >= 0; number--) {
                flow += trays[number].dropOnto(trays[number + 1], capacity);
                trays[number].blind(blinding);
            }
            int[] inPan = trays[sieves].lying;
            inPan[0] -= inPan[0] * dustRate / THOUSAND;
            minutes++;
            return flow;
        }

        int lostMass() {
            int kept = 0;
            for (int number = 0; number <= sieves; number++) {
                Tray tray = trays[number];
                kept += sumOf(tray.lying) + tray.stuck + tray.collected;
            }
            return total - kept;
        }

        boolean hasCollected() {
            return inAnalysis && collectedFrom(0) != 0;
        }

        int passingOf(int sieve) {
            return perThousand(collectedFrom(sieve + 1), collectedFrom(0));
        }

        int collectedFrom(int first) {
            int sum = 0;
            for (int number = first; number <= sieves; number++) {
                sum += trays[number].collected;
            }
            return sum;
        }
    }

    /** The text, and the sample that it was last read as. */
    private static final class SampleText {
        final char[] signs = new char[MOST_TEXT];
        final int[] masses = new int[CLASSES];
        final boolean[] named = new boolean[CLASSES];
        int length;
        int at;

        /** Reads the whole text into the masses; answers the error position, if there is one. */
        int readPairs() {
            forget();
            skipSpaces();
            if (at >= length) {
                return NO_TEXT_ERROR;
            }
            // One round more than there are classes: it must meet a class that stands twice.
            for (int pair = 0; pair <= CLASSES; pair++) {
                int error = readPair();
                if (error != NO_TEXT_ERROR) {
                    return error;
                }
                skipSpaces();
                if (at >= length) {
                    return NO_TEXT_ERROR;
                }
                if (!isSign(',')) {
                    return at;
                }
                at++;
            }
            return at;
        }

        private void forget() {
            for (int size = 0; size < CLASSES; size++) {
                masses[size] = 0;
                named[size] = false;
            }
            at = 0;
        }

        private int readPair() {
            skipSpaces();
            if (!isDigit()) {
                return at;
            }
            int size = digit();
            if (named[size]) {
                return at;
            }
            named[size] = true;
            at++;
            skipSpaces();
            if (!isSign(':')) {
                return at;
            }
            at++;
            skipSpaces();
            return readMass(size);
        }

        private int readMass(int size) {
            int first = at;
            int mass = 0;
            while (at < length && isDigit()) {
                mass = mass * 10 + digit();
                at++;
            }
            int digits = at - first;
            if (digits == 0) {
                return at;
            }
            boolean leadingZero = digits > 1 && signs[first] == '0';
            if (leadingZero || digits > MOST_DIGITS) {
                return first;
            }
            masses[size] = mass;
            return NO_TEXT_ERROR;
        }

        private void skipSpaces() {
            while (at < length && isSign(' ')) {
                at++;
            }
        }

        private boolean isSign(char sign) {
            return at < length && signs[at] == sign;
        }

        private boolean isDigit() {
            return at < length && isIn(signs[at], '0', '9');
        }

        /** The digit at the present place, where isDigit() holds. */
        private int digit() {
            return signs[at] - '0';
        }
    }
}
