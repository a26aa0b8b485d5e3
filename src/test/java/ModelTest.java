import java.util.Random;

/** Runs of calls drawn by fixed seeds, each answer compared with the model's. */
public final class ModelTest {
    private static final int RUNS = 3000;
    private static final int MOST_CALLS = 512;

    private final Random random;
    private final UnitVectors x = new UnitVectors();
    private final Model model = new Model();
    private final int run;
    private final int kind;
    private int calls = 0;

    private ModelTest(int run) {
        this.run = run;
        random = new Random(run);
        kind = run % 4;
    }

    public static void main(String[] args) {
        for (int run = 0; run < RUNS; run++) {
            new ModelTest(run).go();
        }
        Due.end("ModelTest");
    }

    private void go() {
        while (calls < MOST_CALLS - 80) {
            int which = random.nextInt(100);
            if (which < 35) {
                typeSaying();
                same("say()", x.say(), model.say());
            } else if (which < 55) {
                ask();
            } else if (which < 75) {
                askByText();
            } else {
                act();
            }
        }
        for (int i = 0; i < 7; i++) {
            int k = i;
            same("free(" + k + ", 5)", x.free(k, 5), model.free(k, 5));
            same("saying(" + k + ", 10)", x.saying(k, 10), model.saying(k, 10));
            same("least(" + k + ", 1)", x.least(k, 1), model.least(k, 1));
            same("told(" + k + ")", x.told(k), model.told(k));
        }
        same("told(7)", x.told(7), model.told(7));
        same("told(8)", x.told(8), model.told(8));
    }

    private void same(String call, long got, long want) {
        calls++;
        Due.due("run " + run + ", call " + calls + ": " + call, got, want);
    }

    private int about(int low, int high) {
        return random.nextInt(12) == 0 ? random.nextInt(high - low + 5) + low - 2 : random.nextInt(high - low + 1) + low;
    }

    private void ask() {
        int a;
        int b;
        switch (random.nextInt(6)) {
            case 0:
                a = about(0, 8);
                same("told(" + a + ")", x.told(a), model.told(a));
                break;
            case 1:
                a = about(0, 5);
                b = about(0, 10);
                same("saying(" + a + ", " + b + ")", x.saying(a, b), model.saying(a, b));
                break;
            case 2:
                a = about(0, 4);
                b = about(0, 5);
                same("free(" + a + ", " + b + ")", x.free(a, b), model.free(a, b));
                break;
            case 3:
                a = about(0, 5);
                b = about(0, 3);
                same("least(" + a + ", " + b + ")", x.least(a, b), model.least(a, b));
                break;
            case 4:
                a = about(0, 5);
                same("isTold(" + a + ")", x.isTold(a), model.isTold(a));
                break;
            default:
                same("fault()", x.fault(), model.fault());
                break;
        }
    }

    private void askByText() {
        int a;
        int b;
        switch (random.nextInt(5)) {
            case 0:
                typeSaying();
                same("follows()", x.follows(), model.follows());
                break;
            case 1:
                typeSaying();
                same("couldBe()", x.couldBe(), model.couldBe());
                break;
            case 2:
                type(expression(2, "uvwxyzabcd1"));
                a = about(0, 9);
                same("measured(" + a + ")", x.measured(a), model.measured(a));
                break;
            case 3:
                type(expression(2, "abcd1abcdabcdu"));
                a = random.nextInt(9) == 0 ? about(1000000, 1000000) : random.nextInt(random.nextBoolean() ? 1000001 : 60);
                b = about(0, 3);
                same("converted(" + a + ", " + b + ")", x.converted(a, b), model.converted(a, b));
                break;
            default:
                same("wipe()", x.wipe(), model.wipe());
                break;
        }
        same("told(4)", x.told(4), model.told(4));
        same("fault()", x.fault(), model.fault());
    }

    private void act() {
        int a;
        switch (random.nextInt(8)) {
            case 0:
                a = about(0, 5);
                same("back(" + a + ")", x.back(a), model.back(a));
                break;
            case 1:
            case 2:
                a = about(0, 3);
                int above = about(1, 12);
                int below = about(1, 12);
                same("scale(" + a + ", " + above + ", " + below + ")", x.scale(a, above, below), model.scale(a, above, below));
                break;
            case 3:
                a = about(1, random.nextInt(4) == 0 ? 20 : 3);
                same("drift(" + a + ")", x.drift(a), model.drift(a));
                break;
            case 4:
                a = about(1, random.nextInt(4) == 0 ? 20 : 3);
                same("undo(" + a + ")", x.undo(a), model.undo(a));
                break;
            case 5:
                a = random.nextInt() >>> random.nextInt(2);
                same("seed(" + a + ")", x.seed(a), model.seed(a));
                break;
            case 6:
                a = about(0, 1);
                if (random.nextInt(4) == 0) same("keep(" + a + ")", x.keep(a), model.keep(a));
                break;
            default:
                a = about(0, 1);
                if (random.nextInt(4) == 0) same("goBack(" + a + ")", x.goBack(a), model.goBack(a));
                break;
        }
        same("told(0)", x.told(0), model.told(0));
        same("told(8)", x.told(8), model.told(8));
    }

    // ---- texts

    private void type(String text) {
        if (random.nextInt(4) != 0) same("wipe()", x.wipe(), model.wipe());
        for (int i = 0; i < text.length() && calls < MOST_CALLS - 40; i++) {
            int letter = text.charAt(i);
            same("feed(" + letter + ")", x.feed(letter), model.feed(letter));
        }
    }

    private void typeSaying() {
        String text = kind == 0 ? wideSaying() : expression(2, "uvwxyz1") + "=" + expression(1, "abcd1uvwxyz");
        type(random.nextInt(6) == 0 ? spoiled(text) : text);
    }

    /** Great powers of many unknowns: the numbers that are found are great then. */
    private String wideSaying() {
        StringBuilder text = new StringBuilder();
        for (char unknown = 'u'; unknown <= 'z'; unknown++) {
            if (random.nextInt(5) != 0) {
                if (text.length() > 0) text.append('*');
                text.append(unknown).append('^');
                if (random.nextBoolean()) text.append('-');
                text.append(random.nextInt(3) == 0 ? random.nextInt(10) : 9);
            }
        }
        if (text.length() == 0) text.append('1');
        text.append('=');
        text.append("abcd".charAt(random.nextInt(4))).append('^').append(random.nextInt(10));
        return text.toString();
    }

    private String expression(int depth, String atoms) {
        StringBuilder text = new StringBuilder();
        int many = 1 + random.nextInt(3);
        for (int i = 0; i < many; i++) {
            if (i > 0) text.append(random.nextBoolean() ? '*' : '/');
            if (depth > 0 && random.nextInt(5) == 0) {
                text.append('(').append(expression(depth - 1, atoms)).append(')');
            } else {
                text.append(atoms.charAt(random.nextInt(atoms.length())));
            }
            if (random.nextInt(3) == 0) {
                text.append('^');
                if (random.nextInt(3) == 0) text.append('-');
                text.append(random.nextInt(random.nextInt(4) == 0 ? 10 : 4));
            }
            if (random.nextInt(20) == 0) text.append(' ');
        }
        return text.toString();
    }

    private String spoiled(String text) {
        StringBuilder changed = new StringBuilder(text);
        int at = random.nextInt(text.length() + 1);
        char letter = "uvwxyzabcdefgt0123456789()()((((((((^-*/=  ".charAt(random.nextInt(43));
        switch (random.nextInt(4)) {
            case 0:
                changed.insert(at, letter);
                break;
            case 1:
                if (at < text.length()) changed.setCharAt(at, letter);
                break;
            case 2:
                if (at < text.length()) changed.deleteCharAt(at);
                break;
            default:
                changed.insert(at, "((((((((".substring(0, random.nextInt(8) + 1));
                break;
        }
        return changed.toString();
    }
}
