import java.util.Arrays;

/** Units inferred: see the document's promises 1 to 21; README.md says how to use it. */
public final class UnitVectors {
    public static final int NONE = -1, UNKNOWN = -1000000001, OUTSIDE = -1000000002, NOT = -1000000003, FULL = -1000000004;

    private static final int UNKNOWNS = 6;
    private static final int BASES = 4;
    private static final int POWERS = UNKNOWNS + BASES;
    private static final int MOST_LETTERS = 60;
    private static final int GREATEST_LETTER = 255;
    private static final int MOST_SAYINGS = 6;
    private static final int MOST_DEEDS = 20;
    private static final int IMAGES = 2;
    private static final int MOST_SCALE = 12;
    private static final long MOST_SEED = 2147483647L;
    private static final int MOST_CONVERTED = 1000000;
    private static final int MOST_CONVERTED_POWER = 3;
    private static final int LAWS = 4;
    private static final int TOLD_KINDS = 9;
    private static final int FAULT_ANSWER = -10;
    private static final int POWER_SHIFT = 100;
    private static final long SHIFT = 1000000000000L;

    private final int[] text = new int[MOST_LETTERS];
    private int letters;
    private int faultPlace = NONE;
    private final Reader reader = new Reader();
    private final int[] read = new int[POWERS];

    private final State now = new State();
    private final State[] images = new State[IMAGES];
    private final Past past = new Past();
    private final Solutions solutions = new Solutions();
    private final Solutions others = new Solutions();

    public UnitVectors() {
        for (int i = 0; i < IMAGES; i++) {
            images[i] = new State();
        }
    }

    // ---- texts

    public int feed(int letter) {
        if (letter < 0 || letter > GREATEST_LETTER) {
            return OUTSIDE;
        }
        if (letters >= MOST_LETTERS) {
            return FULL;
        }
        text[letters] = letter;
        letters++;
        return letters;
    }

    public int wipe() {
        int had = letters;
        letters = 0;
        return had;
    }

    public int fault() {
        return faultPlace;
    }

    public int told(int what) {
        if (what < 0 || what >= TOLD_KINDS) {
            return OUTSIDE;
        }
        switch (what) {
            case 0: return now.count;
            case 1: return UNKNOWNS - solutions.count;
            case 2: return solutions.count;
            case 3: return countFixed();
            case 4: return letters;
            case 5: return countSpare();
            case 6: return Integer.bitCount(neededSet());
            case 7: return neededSet();
            default: return past.count;
        }
    }

    // ---- deeds

    public int say() {
        int answer = readText(true);
        if (answer != 0) {
            return answer;
        }
        if (now.count >= MOST_SAYINGS) {
            return FULL;
        }
        if (!solutions.agrees(read)) {
            return NOT;
        }
        past.note(now);
        putSaying();
        return now.count;
    }

    public int back(int k) {
        if (k < 0 || k >= now.count) {
            return UNKNOWN;
        }
        past.note(now);
        now.remove(k);
        solveAnew();
        return now.count;
    }

    public int scale(int base, int above, int below) {
        if (base < 0 || base >= BASES) {
            return UNKNOWN;
        }
        if (above < 1 || above > MOST_SCALE || below < 1 || below > MOST_SCALE) {
            return OUTSIDE;
        }
        past.note(now);
        now.above[base] = above;
        now.below[base] = below;
        return now.countScaled();
    }

    public int drift(int n) {
        if (n < 1 || n > MOST_DEEDS) {
            return OUTSIDE;
        }
        for (int i = 0; i < n; i++) {
            driftOnce();
        }
        return now.count;
    }

    public int undo(int n) {
        if (n < 1 || n > MOST_DEEDS) {
            return OUTSIDE;
        }
        if (n > past.count) {
            return NOT;
        }
        past.restore(n, now);
        solveAnew();
        return now.count;
    }

    // ---- asked

    public int saying(int k, int what) {
        if (k < 0 || k >= now.count) {
            return UNKNOWN;
        }
        if (what < 0 || what > POWERS) {
            return OUTSIDE;
        }
        if (what == POWERS) {
            return isSpare(k) ? 1 : 0;
        }
        return now.sayings[k][what] + POWER_SHIFT;
    }

    public long free(int i, int j) {
        if (i < 0 || i >= solutions.count) {
            return UNKNOWN;
        }
        if (j < 0 || j >= UNKNOWNS) {
            return OUTSIDE;
        }
        return solutions.rows[i][j] + SHIFT;
    }

    public long least(int unknown, int base) {
        if (unknown < 0 || unknown >= UNKNOWNS || base < 0 || base >= BASES) {
            return UNKNOWN;
        }
        return solutions.lowest[base][unknown] + SHIFT;
    }

    public int isTold(int unknown) {
        if (unknown < 0 || unknown >= UNKNOWNS) {
            return UNKNOWN;
        }
        return solutions.isFixed(unknown) ? 1 : 0;
    }

    public int follows() {
        int answer = readText(true);
        if (answer != 0) {
            return answer;
        }
        return solutions.imply(read) ? 1 : 0;
    }

    public int couldBe() {
        int answer = readText(true);
        if (answer != 0) {
            return answer;
        }
        return solutions.agrees(read) ? 1 : 0;
    }

    public long measured(int what) {
        if (what < 0 || what >= POWERS) {
            return OUTSIDE;
        }
        int answer = readText(false);
        if (answer != 0) {
            return answer;
        }
        if (what < BASES) {
            return solutions.powerOf(read, what) + SHIFT;
        }
        return solutions.rise(read, what - BASES) + SHIFT;
    }

    public long converted(int v, int law) {
        if (v < 0 || v > MOST_CONVERTED || law < 0 || law >= LAWS) {
            return OUTSIDE;
        }
        int answer = readText(false);
        if (answer != 0) {
            return answer;
        }
        if (!canConvert()) {
            return NOT;
        }
        // at most 1000000 times 12 to the 12, which a long still holds
        return whole(v * scaleProduct(true), scaleProduct(false), law);
    }

    // ---- images

    public int seed(int v) {
        if (v < 0) {
            return OUTSIDE;
        }
        int was = now.drawSeed;
        now.drawSeed = v;
        return was;
    }

    public int keep(int i) {
        if (i < 0 || i >= IMAGES) {
            return UNKNOWN;
        }
        State image = images[i];
        image.copyDeeds(now);
        image.drawSeed = now.drawSeed;
        image.isKept = true;
        past.forget();
        return 1;
    }

    public int goBack(int i) {
        if (i < 0 || i >= IMAGES) {
            return UNKNOWN;
        }
        State image = images[i];
        if (!image.isKept) {
            return NOT;
        }
        now.copyDeeds(image);
        now.drawSeed = image.drawSeed;
        past.forget();
        solveAnew();
        return 1;
    }

    // ---- helpers

    /** Reads THE TEXT into read and empties it: 0, or the answer of a text with a FAULT. */
    private int readText(boolean isSaying) {
        int number = reader.readAll(text, letters, isSaying);
        faultPlace = reader.place;
        letters = 0;
        if (number != 0) {
            return FAULT_ANSWER - number;
        }
        for (int i = 0; i < POWERS; i++) {
            read[i] = (int) reader.totals[0][i];
        }
        return 0;
    }

    /** Puts what was read to the SAYINGS; the caller has seen that there is room and no CLASH. */
    private void putSaying() {
        now.put(read);
        solutions.put(read);
    }

    private void solveAnew() {
        solutions.clear();
        for (int k = 0; k < now.count; k++) {
            solutions.put(now.sayings[k]);
        }
    }

    private void driftOnce() {
        past.note(now);
        int first = now.draw(UNKNOWNS);
        int second = now.draw(UNKNOWNS);
        int often = now.draw(5) - 2;
        int base = now.draw(BASES);
        Arrays.fill(read, 0);
        read[first] += 1;
        read[second] += often;
        read[UNKNOWNS + base] -= 1;
        boolean hasUnknown = read[first] != 0 || read[second] != 0;
        if (hasUnknown && now.count < MOST_SAYINGS && solutions.agrees(read)) {
            putSaying();
        }
    }

    private int countFixed() {
        int fixed = 0;
        for (int i = 0; i < UNKNOWNS; i++) {
            if (solutions.isFixed(i)) {
                fixed++;
            }
        }
        return fixed;
    }

    private int countSpare() {
        int spare = 0;
        for (int k = 0; k < now.count; k++) {
            if (isSpare(k)) {
                spare++;
            }
        }
        return spare;
    }

    private boolean isSpare(int k) {
        others.clear();
        for (int i = 0; i < now.count; i++) {
            if (i != k) {
                others.put(now.sayings[i]);
            }
        }
        return others.imply(now.sayings[k]);
    }

    /**
     * The SET of the FEWEST. Sayings that do not clash follow from one another just where their powers of
     * UNKNOWNS hang together by fractions; so all sets without a spare one that say all are of one size, and
     * the least of them comes by taking, from number 0 on, each one that does not follow from those taken.
     */
    private int neededSet() {
        int set = 0;
        others.clear();
        for (int k = 0; k < now.count; k++) {
            if (!others.imply(now.sayings[k])) {
                others.put(now.sayings[k]);
                set |= 1 << k;
            }
        }
        return set;
    }

    private boolean canConvert() {
        for (int i = 0; i < UNKNOWNS; i++) {
            if (read[i] != 0) {
                return false;
            }
        }
        for (int i = UNKNOWNS; i < POWERS; i++) {
            if (read[i] > MOST_CONVERTED_POWER || read[i] < -MOST_CONVERTED_POWER) {
                return false;
            }
        }
        return true;
    }

    /** What is above (or below) the line of the fraction that great ones are multiplied by. */
    private long scaleProduct(boolean isAbove) {
        long product = 1;
        for (int base = 0; base < BASES; base++) {
            int power = read[UNKNOWNS + base];
            int factor = (power > 0) == isAbove ? now.above[base] : now.below[base];
            for (int i = 0; i < Math.abs(power); i++) {
                product *= factor;
            }
        }
        return product;
    }

    private static long whole(long above, long below, int law) {
        if (below <= 0) {
            return NOT;
        }
        long floor = above / below;
        long twice = 2 * (above % below);
        boolean isRaised;
        switch (law) {
            case 0:
                isRaised = false;
                break;
            case 1:
                isRaised = twice > 0;
                break;
            case 2:
                isRaised = twice >= below;
                break;
            default:
                isRaised = twice > below || (twice == below && floor % 2 != 0);
                break;
        }
        return isRaised ? floor + 1 : floor;
    }

    /** SAYINGS, SCALES and THE SEED. */
    private static final class State {
        private final int[][] sayings = new int[MOST_SAYINGS][POWERS];
        private final int[] above = new int[BASES];
        private final int[] below = new int[BASES];
        private int count;
        private int drawSeed;
        private boolean isKept;

        State() {
            Arrays.fill(above, 1);
            Arrays.fill(below, 1);
        }

        /** All but THE SEED, which stays where deeds are undone. */
        void copyDeeds(State from) {
            count = from.count;
            for (int k = 0; k < MOST_SAYINGS; k++) {
                System.arraycopy(from.sayings[k], 0, sayings[k], 0, POWERS);
            }
            System.arraycopy(from.above, 0, above, 0, BASES);
            System.arraycopy(from.below, 0, below, 0, BASES);
        }

        void put(int[] saying) {
            if (count < MOST_SAYINGS) {
                System.arraycopy(saying, 0, sayings[count], 0, POWERS);
                count++;
            }
        }

        void remove(int k) {
            for (int i = k; i < count - 1; i++) {
                System.arraycopy(sayings[i + 1], 0, sayings[i], 0, POWERS);
            }
            count--;
        }

        int countScaled() {
            int scaled = 0;
            for (int base = 0; base < BASES; base++) {
                if (above[base] != below[base]) {
                    scaled++;
                }
            }
            return scaled;
        }

        int draw(int n) {
            drawSeed = (int) ((drawSeed * 1103515245L + 12345L) & MOST_SEED);
            return n > 0 ? drawSeed / 65536 % n : 0;
        }
    }

    /** What was so ahead of each of the latest deeds, in a ring. */
    private static final class Past {
        private final State[] ahead = new State[MOST_DEEDS];
        private int next;
        private int count;

        Past() {
            for (int i = 0; i < MOST_DEEDS; i++) {
                ahead[i] = new State();
            }
        }

        void note(State now) {
            ahead[next].copyDeeds(now);
            next = (next + 1) % MOST_DEEDS;
            if (count < MOST_DEEDS) {
                count++;
            }
        }

        void restore(int n, State now) {
            next = Math.floorMod(next - n, MOST_DEEDS);
            count -= n;
            now.copyDeeds(ahead[next]);
        }

        void forget() {
            count = 0;
        }
    }

    /** The SOLUTIONS of the sayings that were put in: FREE rows and LEAST SOLUTION. */
    private static final class Solutions {
        // A division with a rest at least halves the rest in two turns, so a long needs fewer than 128.
        private static final int MOST_TURNS = 200;

        private final long[][] rows = new long[UNKNOWNS][UNKNOWNS];
        private final long[][] lowest = new long[BASES][UNKNOWNS];
        private final long[] gains = new long[UNKNOWNS];
        private final long[] lacks = new long[BASES];
        private long[] step = new long[UNKNOWNS];
        private long stepGain;
        private int count;

        Solutions() {
            clear();
        }

        void clear() {
            count = UNKNOWNS;
            for (int i = 0; i < UNKNOWNS; i++) {
                Arrays.fill(rows[i], 0);
                rows[i][i] = 1;
            }
            for (int base = 0; base < BASES; base++) {
                Arrays.fill(lowest[base], 0);
            }
        }

        boolean isFixed(int unknown) {
            for (int i = 0; i < count; i++) {
                if (rows[i][unknown] != 0) {
                    return false;
                }
            }
            return true;
        }

        /** The power of a BASE in the LEAST SOLUTION. */
        long powerOf(int[] powers, int base) {
            return powers[UNKNOWNS + base] + product(powers, lowest[base]);
        }

        /** How much it goes up with FREE row i; with one that there is not, by nothing. */
        long rise(int[] powers, int i) {
            return i < count ? product(powers, rows[i]) : 0;
        }

        boolean imply(int[] saying) {
            weigh(saying);
            return commonGain() == 0 && lacksAreTimes(0);
        }

        boolean agrees(int[] saying) {
            weigh(saying);
            return lacksAreTimes(commonGain());
        }

        /**
         * Puts a saying in that agrees. From the last FREE row on, each one is freed of its gain by divisions
         * with the step, which comes from the last one that has a gain and leaves the FREE rows. As rows stay
         * told as the document tells them, numbers stay small: none comes near to what a long cannot hold.
         */
        void put(int[] saying) {
            weigh(saying);
            int gone = NONE;
            for (int i = count - 1; i >= 0; i--) {
                if (gone != NONE) {
                    divideToAndFro(i);
                    makeHeadPositive(rows[i]);
                    reduce(rows[i], i + 1, gone);
                    reduce(step, i, gone);
                } else if (gains[i] != 0) {
                    gone = i;
                    System.arraycopy(rows[i], 0, step, 0, UNKNOWNS);
                    stepGain = gains[i];
                }
            }
            if (gone != NONE) {
                moveLowest(gone);
                leaveOut(gone);
            }
        }

        /** How much the saying's sides differ more with each FREE row, and what they lack to be alike. */
        private void weigh(int[] saying) {
            for (int i = 0; i < count; i++) {
                gains[i] = product(saying, rows[i]);
            }
            for (int base = 0; base < BASES; base++) {
                lacks[base] = -powerOf(saying, base);
            }
        }

        private long commonGain() {
            long common = 0;
            for (int i = 0; i < count; i++) {
                common = commonDivisor(common, gains[i]);
            }
            return common;
        }

        private boolean lacksAreTimes(long divisor) {
            for (int base = 0; base < BASES; base++) {
                long rest = divisor == 0 ? lacks[base] : lacks[base] % divisor;
                if (rest != 0) {
                    return false;
                }
            }
            return true;
        }

        private void divideToAndFro(int i) {
            long gain = gains[i];
            for (int turn = 0; turn < MOST_TURNS && gain != 0; turn++) {
                long times = stepGain / gain;
                addTimes(step, rows[i], -times);
                long rest = stepGain - times * gain;
                long[] changed = step;
                step = rows[i];
                rows[i] = changed;
                stepGain = gain;
                gain = rest;
            }
        }

        /** Makes what stands at the HEADS of the rows from first on 0 or more, and less than the HEAD. */
        private void reduce(long[] row, int first, int gone) {
            for (int i = first; i < count; i++) {
                int head = headOf(rows[i]);
                if (i != gone && head != NONE && rows[i][head] != 0) {
                    addTimes(row, rows[i], -Math.floorDiv(row[head], rows[i][head]));
                }
            }
        }

        private void moveLowest(int gone) {
            for (int base = 0; base < BASES; base++) {
                if (stepGain != 0) {
                    addTimes(lowest[base], step, lacks[base] / stepGain);
                }
                reduce(lowest[base], 0, gone);
            }
        }

        private void leaveOut(int gone) {
            long[] left = rows[gone];
            for (int i = gone; i < count - 1; i++) {
                rows[i] = rows[i + 1];
            }
            rows[count - 1] = left;
            count--;
        }

        private static void makeHeadPositive(long[] row) {
            int head = headOf(row);
            if (head != NONE && row[head] < 0) {
                for (int i = head; i < UNKNOWNS; i++) {
                    row[i] = -row[i];
                }
            }
        }

        private static int headOf(long[] row) {
            for (int i = 0; i < UNKNOWNS; i++) {
                if (row[i] != 0) {
                    return i;
                }
            }
            return NONE;
        }

        private static void addTimes(long[] row, long[] other, long times) {
            for (int i = 0; i < UNKNOWNS && times != 0; i++) {
                row[i] += times * other[i];
            }
        }

        private static long product(int[] powers, long[] row) {
            long sum = 0;
            for (int i = 0; i < UNKNOWNS; i++) {
                sum += powers[i] * row[i];
            }
            return sum;
        }

        private static long commonDivisor(long a, long b) {
            long greater = Math.abs(a);
            long rest = Math.abs(b);
            for (int turn = 0; turn < MOST_TURNS && rest != 0; turn++) {
                long next = greater % rest;
                greater = rest;
                rest = next;
            }
            return greater;
        }
    }

    /** Reads texts in one go: as all signs are single letters, what may come next is told by a place. */
    private static final class Reader {
        private static final int AT_ATOM = 0, BEHIND_ATOM = 1, AT_POWER = 2, AT_FIGURE = 3, BEHIND_POWER = 4;
        private static final int MOST_OPEN = 6;
        private static final int MOST_POWER = 9;
        private static final int MISPLACED = 1, TOO_DEEP = 2, TOO_GREAT = 3;

        private final long[][] totals = new long[MOST_OPEN + 1][POWERS];
        private final int[] signs = new int[MOST_OPEN + 1];
        private final long[] factor = new long[POWERS];
        private int open;
        private int expected;
        private int powerSign;
        private int side;
        private boolean lacksEqual;
        private int place = NONE;

        /** The number of the FAULT, whose letter is place then; or 0, the POWERS being totals[0] then. */
        int readAll(int[] text, int length, boolean isSaying) {
            start(isSaying);
            for (int i = 0; i < length && i < text.length; i++) {
                int number = text[i] == ' ' ? 0 : take(text[i]);
                if (number != 0) {
                    place = i;
                    return number;
                }
            }
            int number = end();
            place = number == 0 ? NONE : length;
            return number;
        }

        private void start(boolean isSaying) {
            open = 0;
            side = 1;
            lacksEqual = isSaying;
            startTotal();
        }

        private void startTotal() {
            for (int i = 0; i < POWERS; i++) {
                totals[open][i] = 0;
            }
            signs[open] = 1;
            expected = AT_ATOM;
        }

        private int end() {
            boolean isWhole = expected == BEHIND_ATOM || expected == BEHIND_POWER;
            if (!isWhole || open > 0 || lacksEqual) {
                return MISPLACED;
            }
            putFactor();
            for (int i = 0; i < POWERS; i++) {
                if (Math.abs(totals[0][i]) > MOST_POWER) {
                    return TOO_GREAT;
                }
            }
            return 0;
        }

        private int take(int letter) {
            switch (expected) {
                case AT_ATOM:
                    return takeAtom(letter);
                case BEHIND_ATOM:
                    if (letter == '^') {
                        expected = AT_POWER;
                        powerSign = 1;
                        return 0;
                    }
                    return takeJoint(letter);
                case AT_POWER:
                    if (letter == '-') {
                        expected = AT_FIGURE;
                        powerSign = -1;
                        return 0;
                    }
                    return takeFigure(letter);
                case AT_FIGURE:
                    return takeFigure(letter);
                default:
                    return takeJoint(letter);
            }
        }

        private int takeAtom(int letter) {
            if (letter == '(') {
                return takeOpening();
            }
            Arrays.fill(factor, 0);
            if (letter >= 'u' && letter <= 'z') {
                factor[letter - 'u'] = 1;
            } else if (letter >= 'a' && letter <= 'd') {
                factor[UNKNOWNS + letter - 'a'] = 1;
            } else if (letter != '1') {
                return MISPLACED;
            }
            expected = BEHIND_ATOM;
            return 0;
        }

        private int takeOpening() {
            if (open >= MOST_OPEN) {
                return TOO_DEEP;
            }
            open++;
            startTotal();
            return 0;
        }

        private int takeFigure(int letter) {
            if (letter < '0' || letter > '9') {
                return MISPLACED;
            }
            for (int i = 0; i < POWERS; i++) {
                factor[i] *= powerSign * (letter - '0');
            }
            expected = BEHIND_POWER;
            return 0;
        }

        private int takeJoint(int letter) {
            int sign = open == 0 ? side : 1;
            if (letter == '*') {
                joinNext(sign);
            } else if (letter == '/') {
                joinNext(-sign);
            } else if (letter == ')' && open > 0) {
                takeClosing();
            } else if (letter == '=' && open == 0 && lacksEqual) {
                lacksEqual = false;
                side = -1;
                joinNext(side);
            } else {
                return MISPLACED;
            }
            return 0;
        }

        private void joinNext(int sign) {
            putFactor();
            signs[open] = sign;
            expected = AT_ATOM;
        }

        private void takeClosing() {
            putFactor();
            System.arraycopy(totals[open], 0, factor, 0, POWERS);
            open--;
            expected = BEHIND_ATOM;
        }

        private void putFactor() {
            for (int i = 0; i < POWERS; i++) {
                totals[open][i] += signs[open] * factor[i];
            }
        }
    }
}
