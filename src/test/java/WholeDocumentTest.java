import java.io.IOException;
import java.lang.reflect.Field;
import java.lang.reflect.Method;
import java.lang.reflect.Modifier;
import java.nio.file.Files;
import java.nio.file.Path;
import java.util.List;
import java.util.Random;
import java.util.Set;
import java.util.TreeSet;
import java.util.regex.Matcher;
import java.util.regex.Pattern;

/**
 * What stands in the document ahead of "Terms" and behind the promises: "What it is", "The public face" and
 * "Not promised". The solutions are looked at as the words tell them: by trying all rows of small numbers.
 */
public final class WholeDocumentTest {
    private static final int NOT = UnitVectors.NOT;
    private static final long SHIFT = 1000000000000L;
    private static final String WHAT = "What it is", FACE = "The public face", OPEN = "Not promised";
    private static final int FARTHEST = 3;

    private WholeDocumentTest() {
    }

    public static void main(String[] args) throws IOException {
        productOfPowers();
        foundByWhatIsAlike();
        wholePowers();
        allSolutions();
        typedTexts();
        refusedTakenBackUndone();
        toldAndFree();
        asked();
        converted();
        neededOnes();
        images();
        calls();
        publicFace();
        notPromised();
        Sentences.allNamed(WHAT, FACE, OPEN);
        Due.end("WholeDocumentTest");
    }

    private static void due(String call, long got, long want) {
        Due.due(call, got, want);
    }

    // ---- what it is

    private static void productOfPowers() {
        Sentences.of(WHAT, "Units inferred: what a quantity is measured in is a product of powers of a few bases,");
        UnitVectors x = Due.saying("u=a^2*b^-1/c^9", "v=u/d");
        long[] want = {2, -1, -9, -1};
        for (int base = 0; base < 4; base++) {
            due("v, the power of " + base, Due.measured(x, "v", base), SHIFT + want[base]);
        }
    }

    private static void foundByWhatIsAlike() {
        Sentences.of(WHAT, "and where it is not told it is found, by what is said to be alike:");
        UnitVectors x = Due.saying("u*v=a", "v/w=a^2", "w=b");
        long[][] want = {{-1, -1}, {2, 1}, {0, 1}};
        for (int unknown = 0; unknown < 3; unknown++) {
            due("isTold(" + unknown + ")", x.isTold(unknown), 1);
            due("its a", x.least(unknown, 0), SHIFT + want[unknown][0]);
            due("its b", x.least(unknown, 1), SHIFT + want[unknown][1]);
        }
        due("of y nothing is said", x.isTold(4), 0);
    }

    private static void wholePowers() {
        Sentences.of(WHAT, "unknown ones are unknowns, sayings are equations in whole powers,");
        UnitVectors x = new UnitVectors();
        due("u^2=a", Due.say(x, "u^2=a"), NOT);
        due("u^2=a^4", Due.say(x, "u^2=a^4"), 1);
        due("u is a^2", x.least(0, 0), SHIFT + 2);
    }

    /** Systems of up to four small sayings, drawn from a fixed seed. */
    private static void allSolutions() {
        Sentences.of(WHAT, "and by divisions with a rest, to and fro, all solutions are found, the least one and those that may be put to it as often as one likes, which is the most general one;");
        Random random = new Random(21);
        int found = 0;
        for (int run = 0; run < 60; run++) {
            UnitVectors x = new UnitVectors();
            int many = 1 + random.nextInt(4);
            for (int k = 0; k < many; k++) {
                Due.say(x, smallSaying(random));
            }
            found += triedSolutions(x, run);
        }
        due("rows that were solutions", found > 1000 ? 1 : 0, 1);
    }

    private static String smallSaying(Random random) {
        StringBuilder text = new StringBuilder("1");
        for (char unknown = 'u'; unknown <= 'z'; unknown++) {
            text.append('*').append(unknown).append('^');
            int power = random.nextInt(7) - 3;
            text.append(random.nextInt(3) == 0 ? 0 : power);
        }
        return text.append("=a^").append(random.nextInt(10)).toString();
    }

    /** Of all rows of numbers from -FARTHEST on: just those that the sayings are true with come from the least one. */
    private static int triedSolutions(UnitVectors x, int run) {
        long[][] sayings = new long[x.told(0)][7];
        for (int k = 0; k < sayings.length; k++) {
            for (int what = 0; what < 7; what++) {
                sayings[k][what] = x.saying(k, what) - 100;
            }
        }
        long[][] rows = new long[x.told(2)][6];
        long[] least = new long[6];
        for (int j = 0; j < 6; j++) {
            least[j] = x.least(j, 0) - SHIFT;
            for (int i = 0; i < rows.length; i++) {
                rows[i][j] = x.free(i, j) - SHIFT;
            }
        }
        due("run " + run + ": the least one is a solution", isSolution(sayings, least) ? 1 : 0, 1);
        due("run " + run + ": the rows and the least one are told as \"Terms\" tells them", isForm(rows, least) ? 1 : 0, 1);
        long[] tried = {-FARTHEST, -FARTHEST, -FARTHEST, -FARTHEST, -FARTHEST, -FARTHEST};
        int found = 0;
        int wrong = 0;
        do {
            boolean isSolution = isSolution(sayings, tried);
            found += isSolution ? 1 : 0;
            wrong += isSolution != comesFrom(least, rows, tried) ? 1 : 0;
        } while (goOn(tried));
        due("run " + run + ": rows that are a solution and do not come from the least one, or do and are none", wrong, 0);
        return found;
    }

    private static int headOf(long[] row) {
        int head = 0;
        while (row[head] == 0) head++;
        return head;
    }

    private static boolean isForm(long[][] rows, long[] least) {
        boolean isForm = true;
        for (int i = 0; i < rows.length; i++) {
            int head = headOf(rows[i]);
            long high = rows[i][head];
            isForm &= high > 0 && least[head] >= 0 && least[head] < high;
            for (int ahead = 0; ahead < i; ahead++) {
                isForm &= headOf(rows[ahead]) < head && rows[ahead][head] >= 0 && rows[ahead][head] < high;
            }
        }
        return isForm;
    }

    private static boolean goOn(long[] tried) {
        for (int j = 0; j < 6; j++) {
            tried[j]++;
            if (tried[j] <= FARTHEST) return true;
            tried[j] = -FARTHEST;
        }
        return false;
    }

    private static boolean isSolution(long[][] sayings, long[] row) {
        for (long[] saying : sayings) {
            long sum = saying[6];
            for (int j = 0; j < 6; j++) sum += saying[j] * row[j];
            if (sum != 0) return false;
        }
        return true;
    }

    /** As each HEAD stands to the right of those ahead, how often its row was put to the least one is told by it. */
    private static boolean comesFrom(long[] least, long[][] rows, long[] row) {
        long[] left = new long[6];
        for (int j = 0; j < 6; j++) left[j] = row[j] - least[j];
        for (long[] free : rows) {
            int head = headOf(free);
            if (left[head] % free[head] != 0) return false;
            long often = left[head] / free[head];
            for (int j = 0; j < 6; j++) left[j] -= often * free[j];
        }
        for (long number : left) if (number != 0) return false;
        return true;
    }

    private static void typedTexts() {
        Sentences.of(WHAT, "sayings typed as texts of products, quotients, powers and brackets with the first fault,");
        UnitVectors x = new UnitVectors();
        Due.said(x, "(u*v)^2/(w/x)^-1=a", 1);
        int[] want = {102, 102, 101, 99, 100, 100, 99};
        for (int what = 0; what < 7; what++) {
            due("saying(0, " + what + ")", x.saying(0, what), want[what]);
        }
        due("u*)=(", Due.say(x, "u*)=("), -11);
        due("fault()", x.fault(), 2);
    }

    private static void refusedTakenBackUndone() {
        Sentences.of(WHAT, "refused where they clash, taken back, undone;");
        UnitVectors x = Due.saying("u=a", "v=b");
        due("u=b", Due.say(x, "u=b"), NOT);
        due("back(0)", x.back(0), 1);
        due("u=b then", Due.say(x, "u=b"), 2);
        due("undo(2)", x.undo(2), 2);
        due("u is a again", x.least(0, 0), SHIFT + 1);
    }

    private static void toldAndFree() {
        Sentences.of(WHAT, "which unknowns are told, which are free, by how much;");
        UnitVectors x = Due.saying("u^4=v^6", "w=a");
        due("w is told", x.isTold(2), 1);
        due("u is not", x.isTold(0), 0);
        due("u goes up by 3", x.free(0, 0), SHIFT + 3);
        due("with v by 2", x.free(0, 1), SHIFT + 2);
        due("and w by nothing", x.free(0, 2), SHIFT);
    }

    private static void asked() {
        Sentences.of(WHAT, "whether a saying follows, whether it could be, what an expression is measured in;");
        UnitVectors x = Due.saying("u*v=a", "v*w=b");
        due("u/w=a/b follows", Due.follows(x, "u/w=a/b"), 1);
        due("u=w does not", Due.follows(x, "u=w"), 0);
        due("u=w could not be", Due.couldBe(x, "u=w"), 0);
        due("u=a could", Due.couldBe(x, "u=a"), 1);
        due("u*v*w*v in a", Due.measured(x, "u*v*w*v", 0), SHIFT + 1);
        due("u*v*w*v in b", Due.measured(x, "u*v*w*v", 1), SHIFT + 1);
        due("u*v*w*v does not go up", Due.measured(x, "u*v*w*v", 4), SHIFT);
        due("u*w does, by 2", Due.measured(x, "u*w", 4), SHIFT + 2);
    }

    private static void converted() {
        Sentences.of(WHAT, "scales of the bases and numbers converted by them, cut, raised, to the nearest, to the even one;");
        UnitVectors x = new UnitVectors();
        due("scale(0, 5, 2)", x.scale(0, 5, 2), 1);
        long[] want = {2, 3, 3, 2};
        for (int law = 0; law < 4; law++) {
            due("1 a by LAW " + law, Due.converted(x, "a", 1, law), want[law]);
        }
    }

    private static void neededOnes() {
        Sentences.of(WHAT, "sayings that are needed, that are not; the fewest that say all;");
        UnitVectors x = Due.saying("w=c", "u=a", "u*v=a*b", "v=b");
        due("w=c is needed", x.saying(0, 10), 0);
        due("u=a is not", x.saying(1, 10), 1);
        due("how many are not", x.told(5), 3);
        due("the fewest", x.told(6), 3);
        due("which", x.told(7), 1 + 2 + 4);
    }

    private static void images() {
        Sentences.of(WHAT, "images to go on from.");
        UnitVectors x = Due.saying("u=a");
        due("keep(1)", x.keep(1), 1);
        Due.said(x, "v=b", 2);
        due("goBack(1)", x.goBack(1), 1);
        due("what was so", x.told(0), 1);
        Due.said(x, "v=c", 2);
    }

    private static void calls() {
        Sentences.of(WHAT, "An object is used for at most 512 calls after it has been made; what later calls answer is free.");
        UnitVectors x = new UnitVectors();
        int calls = 0;
        for (int turn = 0; turn < 85; turn++) {
            due("call " + ++calls, x.feed('u'), 1);
            due("call " + ++calls, x.feed('='), 2);
            due("call " + ++calls, x.feed('a'), 3);
            due("call " + ++calls, x.say(), 1);
            due("call " + ++calls, x.isTold(0), 1);
            due("call " + ++calls, x.back(0), 0);
        }
        due("call " + ++calls, x.told(8), 20);
        due("call " + ++calls, x.undo(20), 0);
        due("calls", calls, 512);
        for (int later = 0; later < 600; later++) {
            x.feed('u');
        }
        x.say();
        x.drift(20);
        due("later calls end", 1, 1);
    }

    // ---- the public face, line by line

    private static void publicFace() throws IOException {
        Set<String> methods = new TreeSet<>();
        int constants = 0;
        boolean isFace = false;
        for (String line : Files.readAllLines(Path.of("../shared/DOC.md"))) {
            if (line.startsWith("#")) isFace = line.equals("## " + FACE);
            String code = line.trim();
            if (!isFace || code.isEmpty() || code.startsWith("#") || code.startsWith("```") || code.equals("}")) continue;
            Sentences.of(FACE, code);
            if (code.contains(" = ")) {
                constants += constantsOf(code);
            } else if (code.endsWith(";")) {
                methods.add(asToldBack(code));
            } else {
                due("the class is as written", code.equals("public final class UnitVectors {")
                        && Modifier.toString(UnitVectors.class.getModifiers()).equals("public final") ? 1 : 0, 1);
            }
        }
        due("constants that can be seen", UnitVectors.class.getFields().length, constants);
        // one of those that the document writes is the constructor
        due("methods that can be seen", ownMethods(), methods.size() - 1);
    }

    private static int ownMethods() {
        int own = 0;
        for (Method method : UnitVectors.class.getMethods()) {
            own += method.getDeclaringClass() == UnitVectors.class ? 1 : 0;
        }
        return own;
    }

    private static int constantsOf(String code) {
        Matcher constant = Pattern.compile("(\\w+) = (-?\\d+)").matcher(code);
        int many = 0;
        while (constant.find()) {
            many++;
            due(constant.group(1), constantNamed(constant.group(1)), Long.parseLong(constant.group(2)));
        }
        return many;
    }

    private static long constantNamed(String name) {
        for (Field field : UnitVectors.class.getFields()) {
            if (field.getName().equals(name) && Modifier.toString(field.getModifiers()).equals("public static final")) {
                try {
                    return field.getInt(null);
                } catch (IllegalAccessException hidden) {
                    return Long.MIN_VALUE;
                }
            }
        }
        return Long.MIN_VALUE;
    }

    /** Looks for a method (or the constructor) of the document in the class. */
    private static String asToldBack(String code) {
        String told = code.replaceAll(" \\w+(?=[,)])", "").replaceAll(", ", ",").replace(";", "");
        boolean isThere = told.equals("public UnitVectors()") && UnitVectors.class.getConstructors().length == 1
                && UnitVectors.class.getConstructors()[0].getParameterCount() == 0;
        for (Method method : UnitVectors.class.getDeclaredMethods()) {
            isThere |= method.toString().replace("UnitVectors.", "").equals(told);
        }
        due(told + " is there", isThere ? 1 : 0, 1);
        return told;
    }

    // ---- not promised

    private static void notPromised() {
        for (String sentence : List.of(
                "How the state is held inside the object is free, as are the speed of each call, the text of toString and the behaviour of equals and hashCode.",
                "Use of one object from several threads at once is not promised to be safe.",
                "Nothing is promised beyond the answers and state changes described above, and nothing about an object after its 512th call.")) {
            Sentences.withoutEdge(OPEN, sentence);
        }
    }
}
