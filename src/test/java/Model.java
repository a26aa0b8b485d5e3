import java.math.BigInteger;
import java.util.ArrayDeque;
import java.util.ArrayList;
import java.util.Deque;
import java.util.List;

/**
 * The document once more, in another way: BigIntegers, all sayings solved at once, a text read by descent,
 * FEWEST by looking at all sets. It is slow and only there to be compared with.
 */
final class Model {
    private static final int NONE = -1, UNKNOWN = -1000000001, OUTSIDE = -1000000002, NOT = -1000000003, FULL = -1000000004;
    private static final long SHIFT = 1000000000000L;

    private record Held(List<int[]> sayings, int[] above, int[] below) {
        Held copy() {
            return new Held(new ArrayList<>(sayings), above.clone(), below.clone());
        }
    }

    private record Image(Held held, long seed) {
    }

    private record Solved(List<BigInteger[]> rows, BigInteger[][] least) {
    }

    private static final class Fault extends Exception {
        private static final long serialVersionUID = 1;
        private final int number;
        private final int place;

        Fault(int number, int place) {
            this.number = number;
            this.place = place;
        }
    }

    private final StringBuilder text = new StringBuilder();
    private int faultPlace = NONE;
    private Held held = new Held(new ArrayList<>(), new int[] {1, 1, 1, 1}, new int[] {1, 1, 1, 1});
    private long seed = 0;
    private final Deque<Held> past = new ArrayDeque<>();
    private final Image[] images = new Image[2];
    private int[] read = new int[10];

    // ---- the face

    int feed(int letter) {
        if (letter < 0 || letter > 255) return OUTSIDE;
        if (text.length() == 60) return FULL;
        text.append((char) letter);
        return text.length();
    }

    int wipe() {
        int had = text.length();
        text.setLength(0);
        return had;
    }

    int fault() {
        return faultPlace;
    }

    int told(int what) {
        switch (what) {
            case 0: return held.sayings.size();
            case 1: return 6 - solve(held.sayings).rows.size();
            case 2: return solve(held.sayings).rows.size();
            case 3: {
                int count = 0;
                for (int i = 0; i < 6; i++) count += isTold(i);
                return count;
            }
            case 4: return text.length();
            case 5: {
                int count = 0;
                for (int k = 0; k < held.sayings.size(); k++) count += saying(k, 10);
                return count;
            }
            case 6: return Integer.bitCount(fewest());
            case 7: return fewest();
            case 8: return past.size();
            default: return OUTSIDE;
        }
    }

    int say() {
        int answer = readText(true);
        if (answer != 0) return answer;
        if (held.sayings.size() == 6) return FULL;
        if (solve(with(read)) == null) return NOT;
        remember();
        held.sayings.add(read);
        return held.sayings.size();
    }

    int back(int k) {
        if (k < 0 || k >= held.sayings.size()) return UNKNOWN;
        remember();
        held.sayings.remove(k);
        return held.sayings.size();
    }

    int scale(int base, int above, int below) {
        if (base < 0 || base > 3) return UNKNOWN;
        if (above < 1 || above > 12 || below < 1 || below > 12) return OUTSIDE;
        remember();
        held.above[base] = above;
        held.below[base] = below;
        int count = 0;
        for (int i = 0; i < 4; i++) if (held.above[i] != held.below[i]) count++;
        return count;
    }

    int drift(int n) {
        if (n < 1 || n > 20) return OUTSIDE;
        for (int i = 0; i < n; i++) {
            remember();
            int[] drawn = new int[10];
            int first = draw(6);
            int second = draw(6);
            int third = draw(5);
            int fourth = draw(4);
            drawn[first]++;
            drawn[second] += third - 2;
            drawn[6 + fourth]--;
            boolean any = false;
            for (int j = 0; j < 6; j++) any |= drawn[j] != 0;
            if (any && held.sayings.size() < 6 && solve(with(drawn)) != null) held.sayings.add(drawn);
        }
        return held.sayings.size();
    }

    int undo(int n) {
        if (n < 1 || n > 20) return OUTSIDE;
        if (n > past.size()) return NOT;
        for (int i = 0; i < n; i++) held = past.removeLast();
        return held.sayings.size();
    }

    int saying(int k, int what) {
        if (k < 0 || k >= held.sayings.size()) return UNKNOWN;
        if (what < 0 || what > 10) return OUTSIDE;
        if (what < 10) return held.sayings.get(k)[what] + 100;
        List<int[]> others = new ArrayList<>(held.sayings);
        others.remove(k);
        return isTrueIn(solve(others), held.sayings.get(k)) ? 1 : 0;
    }

    long free(int i, int j) {
        Solved solved = solve(held.sayings);
        if (i < 0 || i >= solved.rows.size()) return UNKNOWN;
        if (j < 0 || j > 5) return OUTSIDE;
        return solved.rows.get(i)[j].longValueExact() + SHIFT;
    }

    long least(int unknown, int base) {
        if (unknown < 0 || unknown > 5 || base < 0 || base > 3) return UNKNOWN;
        return solve(held.sayings).least[base][unknown].longValueExact() + SHIFT;
    }

    int isTold(int unknown) {
        if (unknown < 0 || unknown > 5) return UNKNOWN;
        for (BigInteger[] row : solve(held.sayings).rows) if (row[unknown].signum() != 0) return 0;
        return 1;
    }

    int follows() {
        int answer = readText(true);
        if (answer != 0) return answer;
        return isTrueIn(solve(held.sayings), read) ? 1 : 0;
    }

    int couldBe() {
        int answer = readText(true);
        if (answer != 0) return answer;
        return solve(with(read)) != null ? 1 : 0;
    }

    long measured(int what) {
        if (what < 0 || what > 9) return OUTSIDE;
        int answer = readText(false);
        if (answer != 0) return answer;
        Solved solved = solve(held.sayings);
        if (what < 4) return times(read, solved.least[what]).longValueExact() + read[6 + what] + SHIFT;
        if (what - 4 >= solved.rows.size()) return SHIFT;
        return times(read, solved.rows.get(what - 4)).longValueExact() + SHIFT;
    }

    long converted(int v, int law) {
        if (v < 0 || v > 1000000 || law < 0 || law > 3) return OUTSIDE;
        int answer = readText(false);
        if (answer != 0) return answer;
        BigInteger above = BigInteger.valueOf(v);
        BigInteger below = BigInteger.ONE;
        for (int i = 0; i < 10; i++) {
            if (i < 6 ? read[i] != 0 : Math.abs(read[i]) > 3) return NOT;
            if (i < 6) continue;
            BigInteger great = BigInteger.valueOf(held.above[i - 6]).pow(Math.abs(read[i]));
            BigInteger small = BigInteger.valueOf(held.below[i - 6]).pow(Math.abs(read[i]));
            above = above.multiply(read[i] > 0 ? great : small);
            below = below.multiply(read[i] > 0 ? small : great);
        }
        BigInteger two = BigInteger.TWO;
        BigInteger floor = above.divide(below);
        BigInteger ceiling = above.add(below).subtract(BigInteger.ONE).divide(below);
        BigInteger nearest = above.multiply(two).add(below).divide(below.multiply(two));
        boolean isHalf = above.multiply(two).mod(below.multiply(two)).equals(below);
        switch (law) {
            case 0: return floor.longValueExact();
            case 1: return ceiling.longValueExact();
            case 2: return nearest.longValueExact();
            default: return (isHalf ? (floor.testBit(0) ? ceiling : floor) : nearest).longValueExact();
        }
    }

    int seed(int v) {
        if (v < 0) return OUTSIDE;
        int was = (int) seed;
        seed = v;
        return was;
    }

    int keep(int i) {
        if (i < 0 || i > 1) return UNKNOWN;
        images[i] = new Image(held.copy(), seed);
        past.clear();
        return 1;
    }

    int goBack(int i) {
        if (i < 0 || i > 1) return UNKNOWN;
        if (images[i] == null) return NOT;
        held = images[i].held.copy();
        seed = images[i].seed;
        past.clear();
        return 1;
    }

    // ---- deeds

    private void remember() {
        past.addLast(held.copy());
        if (past.size() > 20) past.removeFirst();
    }

    private int draw(int n) {
        seed = (seed * 1103515245L + 12345L) % (1L << 31);
        return (int) (seed / 65536 % n);
    }

    // ---- texts by descent

    private String letters = "";
    private int at = 0;

    private int readText(boolean isSaying) {
        letters = text.toString();
        text.setLength(0);
        at = 0;
        try {
            long[] powers = readE(0);
            if (isSaying) {
                expect('=');
                long[] right = readE(0);
                for (int i = 0; i < 10; i++) powers[i] -= right[i];
            }
            if (next() != NONE) throw new Fault(1, at);
            int[] small = new int[10];
            for (int i = 0; i < 10; i++) {
                if (powers[i] > 9 || powers[i] < -9) throw new Fault(3, letters.length());
                small[i] = (int) powers[i];
            }
            read = small;
            faultPlace = NONE;
            return 0;
        } catch (Fault fault) {
            faultPlace = fault.place;
            return -10 - fault.number;
        }
    }

    /** The next letter that is not blank, at which at stands then; NONE at the end. */
    private int next() {
        while (at < letters.length() && letters.charAt(at) == ' ') at++;
        return at < letters.length() ? letters.charAt(at) : NONE;
    }

    private void expect(char letter) throws Fault {
        if (next() != letter) throw new Fault(1, at);
        at++;
    }

    private long[] readE(int depth) throws Fault {
        long[] powers = readF(depth);
        while (next() == '*' || next() == '/') {
            int sign = next() == '*' ? 1 : -1;
            at++;
            long[] more = readF(depth);
            for (int i = 0; i < 10; i++) powers[i] += sign * more[i];
        }
        return powers;
    }

    private long[] readF(int depth) throws Fault {
        long[] powers = readA(depth);
        if (next() == '^') {
            at++;
            int sign = next() == '-' ? -1 : 1;
            if (sign < 0) at++;
            int figure = "0123456789".indexOf(next());
            if (figure < 0) throw new Fault(1, at);
            at++;
            for (int i = 0; i < 10; i++) powers[i] *= sign * figure;
        }
        return powers;
    }

    private long[] readA(int depth) throws Fault {
        int letter = next();
        if (letter == '(') {
            if (depth == 6) throw new Fault(2, at);
            at++;
            long[] powers = readE(depth + 1);
            expect(')');
            return powers;
        }
        int which = letter == NONE ? NONE : "uvwxyzabcd1".indexOf(letter);
        if (which < 0) throw new Fault(1, at);
        at++;
        long[] powers = new long[10];
        if (which < 10) powers[which] = 1;
        return powers;
    }

    // ---- solutions

    private List<int[]> with(int[] more) {
        List<int[]> all = new ArrayList<>(held.sayings);
        all.add(more);
        return all;
    }

    private static BigInteger times(int[] powers, BigInteger[] row) {
        BigInteger sum = BigInteger.ZERO;
        for (int i = 0; i < 6; i++) sum = sum.add(row[i].multiply(BigInteger.valueOf(powers[i])));
        return sum;
    }

    private static boolean isTrueIn(Solved solved, int[] saying) {
        for (BigInteger[] row : solved.rows) if (times(saying, row).signum() != 0) return false;
        for (int b = 0; b < 4; b++) {
            if (times(saying, solved.least[b]).add(BigInteger.valueOf(saying[6 + b])).signum() != 0) return false;
        }
        return true;
    }

    private int fewest() {
        int size = held.sayings.size();
        int best = (1 << size) - 1;
        for (int set = 0; set < 1 << size; set++) {
            if (Integer.bitCount(set) < Integer.bitCount(best) && saysAll(set)) best = set;
            else if (Integer.bitCount(set) == Integer.bitCount(best) && set < best && saysAll(set)) best = set;
        }
        return best;
    }

    private boolean saysAll(int set) {
        List<int[]> some = new ArrayList<>();
        for (int k = 0; k < held.sayings.size(); k++) if ((set >> k & 1) == 1) some.add(held.sayings.get(k));
        Solved solved = solve(some);
        for (int[] saying : held.sayings) if (!isTrueIn(solved, saying)) return false;
        return true;
    }

    /** All at once: rows that change the unknowns are brought to steps by what they do to the sayings. Null: clash. */
    private static Solved solve(List<int[]> sayings) {
        int m = sayings.size();
        BigInteger[][] wide = new BigInteger[6][m + 6];
        for (int i = 0; i < 6; i++) {
            for (int k = 0; k < m; k++) wide[i][k] = BigInteger.valueOf(sayings.get(k)[i]);
            for (int j = 0; j < 6; j++) wide[i][m + j] = i == j ? BigInteger.ONE : BigInteger.ZERO;
        }
        int done = toSteps(wide, 0, 0, m);
        BigInteger[][] least = new BigInteger[4][];
        for (int b = 0; b < 4; b++) {
            least[b] = oneSolution(wide, done, sayings, b);
            if (least[b] == null) return null;
        }
        toSteps(wide, done, m, m + 6);
        List<BigInteger[]> rows = new ArrayList<>();
        for (int i = done; i < 6; i++) {
            BigInteger[] row = new BigInteger[6];
            System.arraycopy(wide[i], m, row, 0, 6);
            rows.add(row);
        }
        for (int i = 0; i < rows.size(); i++) {
            int head = headOf(rows.get(i));
            if (rows.get(i)[head].signum() < 0) subtract(rows.get(i), rows.get(i), BigInteger.TWO);
            for (int above = 0; above < i; above++) lower(rows.get(above), rows.get(i), head);
        }
        for (int b = 0; b < 4; b++) for (BigInteger[] row : rows) lower(least[b], row, headOf(row));
        return new Solved(rows, least);
    }

    /** Brings rows from first on to steps by the columns from..to: how many rows have a head there, and first. */
    private static int toSteps(BigInteger[][] rows, int first, int from, int to) {
        int done = first;
        for (int column = from; column < to && done < rows.length; column++) {
            boolean isOne = false;
            while (!isOne) {
                int small = NONE;
                int many = 0;
                for (int i = done; i < rows.length; i++) {
                    if (rows[i][column].signum() == 0) continue;
                    many++;
                    if (small == NONE || rows[i][column].abs().compareTo(rows[small][column].abs()) < 0) small = i;
                }
                if (many == 0) break;
                BigInteger[] kept = rows[small];
                rows[small] = rows[done];
                rows[done] = kept;
                for (int i = done + 1; i < rows.length; i++) subtract(rows[i], kept, rows[i][column].divide(kept[column]));
                isOne = many == 1;
            }
            if (isOne) done++;
        }
        return done;
    }

    private static BigInteger[] oneSolution(BigInteger[][] wide, int done, List<int[]> sayings, int base) {
        int m = sayings.size();
        BigInteger[] sum = new BigInteger[m + 6];
        java.util.Arrays.fill(sum, BigInteger.ZERO);
        int row = 0;
        for (int k = 0; k < m; k++) {
            BigInteger lack = BigInteger.valueOf(-sayings.get(k)[6 + base]).subtract(sum[k]);
            if (row < done && wide[row][k].signum() != 0) {
                BigInteger[] parts = lack.divideAndRemainder(wide[row][k]);
                if (parts[1].signum() != 0) return null;
                subtract(sum, wide[row], parts[0].negate());
                row++;
            } else if (lack.signum() != 0) {
                return null;
            }
        }
        BigInteger[] solution = new BigInteger[6];
        System.arraycopy(sum, m, solution, 0, 6);
        return solution;
    }

    private static int headOf(BigInteger[] row) {
        int head = 0;
        while (row[head].signum() == 0) head++;
        return head;
    }

    private static void lower(BigInteger[] row, BigInteger[] by, int head) {
        BigInteger rest = row[head].mod(by[head]);
        subtract(row, by, row[head].subtract(rest).divide(by[head]));
    }

    private static void subtract(BigInteger[] row, BigInteger[] other, BigInteger often) {
        for (int i = 0; i < row.length; i++) row[i] = row[i].subtract(other[i].multiply(often));
    }
}
