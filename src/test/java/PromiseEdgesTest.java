/** The edges that the document's promises name: a test for each sentence of each promise, which it names. */
public final class PromiseEdgesTest {
    private static final int NONE = UnitVectors.NONE;
    private static final int UNKNOWN = UnitVectors.UNKNOWN;
    private static final int OUTSIDE = UnitVectors.OUTSIDE;
    private static final int NOT = UnitVectors.NOT;
    private static final int FULL = UnitVectors.FULL;
    private static final long SHIFT = 1000000000000L;
    private static final int LEAST_INT = -2147483648, MOST_INT = 2147483647;
    private static final String[] ALL_TOLD = {"u=a", "v=b", "w=c", "x=d", "y=1", "z=u*v"};
    private static final String[] NOTHING_SAID = {"1=1", "1=1", "1=1", "1=1", "1=1", "1=1"};

    private PromiseEdgesTest() {
    }

    public static void main(String[] args) {
        newObject();
        feed();
        wipe();
        fault();
        told();
        say();
        back();
        scale();
        drift();
        undo();
        saying();
        free();
        least();
        isTold();
        follows();
        couldBe();
        measured();
        converted();
        seed();
        keep();
        goBack();
        Sentences.allNamed("Promise ");
        Due.end("PromiseEdgesTest");
    }

    private static void due(String call, long got, long want) {
        Due.due(call, got, want);
    }

    /** Numbers just out of the bounds, and those that are farthest out. */
    private static int[] around(int low, int high) {
        return new int[] {LEAST_INT, low - 1, high + 1, MOST_INT};
    }

    // ---- promise 1

    private static void newObject() {
        Sentences.of("Promise 1", "Nothing is said.");
        UnitVectors older = Due.saying("u=a", "v=b");
        older.scale(0, 2, 1);
        older.seed(9);
        older.keep(0);
        older.feed('u');
        UnitVectors x = new UnitVectors();
        int[] want = {0, 0, 6, 0, 0, 0, 0, 0, 0};
        for (int what = 0; what < 9; what++) {
            due("told(" + what + ")", x.told(what), want[what]);
        }
        due("fault()", x.fault(), NONE);
        due("saying(0, 0)", x.saying(0, 0), UNKNOWN);
        due("back(0)", x.back(0), UNKNOWN);
        due("undo(1)", x.undo(1), NOT);
        due("goBack(0)", x.goBack(0), NOT);
        due("goBack(1)", x.goBack(1), NOT);
        due("seed(0)", x.seed(0), 0);
        due("wipe()", x.wipe(), 0);
        for (int i = 0; i < 6; i++) {
            due("isTold(" + i + ")", x.isTold(i), 0);
            for (int j = 0; j < 6; j++) {
                due("free(" + i + ", " + j + ")", x.free(i, j), SHIFT + (i == j ? 1 : 0));
            }
            for (int base = 0; base < 4; base++) {
                due("least(" + i + ", " + base + ")", x.least(i, base), SHIFT);
            }
        }
        due("a SCALE is 1", Due.converted(x, "a*b*c*d", 1000000, 0), 1000000);
        due("1=1 FOLLOWS", Due.follows(x, "1=1"), 1);
        due("u=a does not", Due.follows(x, "u=a"), 0);
    }

    // ---- promise 2

    private static void feed() {
        feedBehind();
        feedOutside();
        feedFull();
    }

    private static void feedBehind() {
        Sentences.of("Promise 2", "A letter (0 .. 255) comes behind THE TEXT: how many it has.");
        for (int first = 0; first < 256; first += 60) {
            UnitVectors x = new UnitVectors();
            for (int letter = first; letter < first + 60 && letter < 256; letter++) {
                due("feed(" + letter + ")", x.feed(letter), letter - first + 1);
            }
        }
        UnitVectors x = new UnitVectors();
        Due.type(x, "a/b");
        due("a is ahead of b", x.measured(0), SHIFT + 1);
        Due.type(x, "a/b");
        due("b is behind a", x.measured(1), SHIFT - 1);
        Due.type(x, "a/b");
        x.fault();
        x.told(4);
        due("feed('*') behind other calls", x.feed('*'), 4);
        due("feed('b')", x.feed('b'), 5);
        due("b by b", x.measured(1), SHIFT);
    }

    private static void feedOutside() {
        Sentences.of("Promise 2", "OUTSIDE, ");
        UnitVectors x = new UnitVectors();
        Due.type(x, "u=");
        for (int letter : around(0, 255)) {
            due("feed(" + letter + ")", x.feed(letter), OUTSIDE);
            due("told(4)", x.told(4), 2);
        }
        due("feed('a' and 256)", x.feed('a' + 256), OUTSIDE);
        due("feed('a' less 256)", x.feed('a' - 256), OUTSIDE);
        due("feed('a')", x.feed('a'), 3);
        due("say()", x.say(), 1);
        Due.type(x, " ".repeat(60));
        for (int letter : around(0, 255)) {
            due("feed(" + letter + ") behind 60", x.feed(letter), OUTSIDE);
        }
    }

    private static void feedFull() {
        Sentences.of("Promise 2", "FULL (60).");
        UnitVectors x = new UnitVectors();
        Due.type(x, "u=a" + " ".repeat(56));
        due("the 60th", x.feed(' '), 60);
        due("the 61st", x.feed('*'), FULL);
        due("the 61st, 0", x.feed(0), FULL);
        due("the 61st, 255", x.feed(255), FULL);
        due("told(4)", x.told(4), 60);
        due("say() of the 60", x.say(), 1);
        due("then there is room", x.feed('u'), 1);
    }

    // ---- promise 3

    private static void wipe() {
        Sentences.of("Promise 3", "THE TEXT is empty: how many letters it had.");
        UnitVectors x = new UnitVectors();
        due("wipe() of a new object", x.wipe(), 0);
        for (int letters = 1; letters <= 60; letters += 59) {
            for (int i = 0; i < letters; i++) {
                x.feed('u');
            }
            due("wipe() of " + letters, x.wipe(), letters);
            due("told(4) then", x.told(4), 0);
            due("wipe() again", x.wipe(), 0);
        }
        for (int i = 0; i < 61; i++) {
            x.feed('u');
        }
        due("wipe() behind FULL", x.wipe(), 60);
        due("feed() then", x.feed('u'), 1);
        x.feed('=');
        x.feed('a');
        due("nothing of the old text is read", x.say(), 1);
        due("wipe() behind say()", x.wipe(), 0);
        due("SAYINGS stay", x.told(0), 1);
    }

    // ---- promise 4

    private static void fault() {
        faultOfLatest();
        faultNone();
    }

    private static void faultOfLatest() {
        Sentences.of("Promise 4", "The letter of the FAULT of the latest text that was read;");
        UnitVectors x = new UnitVectors();
        due("say() of =", Due.say(x, "="), -11);
        due("at 0", x.fault(), 0);
        due("measured() of a text of 60", Due.measured(x, "a*" + " ".repeat(58), 0), -11);
        due("at 60", x.fault(), 60);
        due("at 60 still", x.fault(), 60);
        due("follows() of (((((((", Due.follows(x, "((((((("), -12);
        due("at 6", x.fault(), 6);
        due("couldBe() of a^9=1/a", Due.couldBe(x, "a^9=1/a"), -13);
        due("at 7", x.fault(), 7);
        due("converted() of a=", Due.converted(x, "a=", 1, 0), -11);
        due("at 1", x.fault(), 1);
        due("the empty text", x.say(), -11);
        due("at 0 again", x.fault(), 0);
        Due.said(x, "u=)", -11);
        Due.type(x, ")");
        due("what is fed is not read yet", x.fault(), 2);
        due("measured(10)", x.measured(10), OUTSIDE);
        due("converted(-1, 0)", x.converted(-1, 0), OUTSIDE);
        due("what is refused OUTSIDE is not read", x.fault(), 2);
        x.wipe();
        due("what is wiped was not read", x.fault(), 2);
        x.drift(1);
        x.undo(1);
        x.keep(0);
        x.goBack(0);
        due("no other call reads", x.fault(), 2);
    }

    private static void faultNone() {
        Sentences.of("Promise 4", "NONE.");
        UnitVectors x = new UnitVectors();
        due("nothing was read", x.fault(), NONE);
        String[] texts = {"u=a", "u=b"};
        int[] answers = {1, NOT};
        for (int i = 0; i < 2; i++) {
            Due.said(x, ")", -11);
            due("say() of " + texts[i], Due.say(x, texts[i]), answers[i]);
            due("fault() then", x.fault(), NONE);
        }
        Due.said(x, ")", -11);
        Due.follows(x, "u=b");
        due("behind follows()", x.fault(), NONE);
        Due.said(x, ")", -11);
        Due.couldBe(x, "u=b");
        due("behind couldBe()", x.fault(), NONE);
        Due.said(x, ")", -11);
        Due.measured(x, "u", 0);
        due("behind measured()", x.fault(), NONE);
        Due.said(x, ")", -11);
        Due.converted(x, "u", 0, 0);
        due("behind converted(), NOT", x.fault(), NONE);
        UnitVectors six = Due.saying(NOTHING_SAID);
        Due.said(six, ")", -11);
        due("FULL", Due.say(six, "u=b"), FULL);
        due("behind FULL", six.fault(), NONE);
    }

    // ---- promise 5

    private static void told() {
        toldSayings();
        toldRank();
        toldFree();
        toldTold();
        toldLetters();
        toldSpare();
        toldFewest();
        toldSet();
        toldUndone();
        toldOutside();
    }

    /** told(what) of nothing, then behind each of six sayings. */
    private static void toldBehindEach(int what, String[] texts, int... want) {
        UnitVectors x = new UnitVectors();
        due("told(" + what + ") of nothing", x.told(what), want[0]);
        for (int k = 0; k < texts.length; k++) {
            Due.said(x, texts[k], k + 1);
            due("told(" + what + ") behind " + texts[k], x.told(what), want[k + 1]);
        }
    }

    private static void toldSayings() {
        Sentences.of("Promise 5", "0 SAYINGS,");
        toldBehindEach(0, ALL_TOLD, 0, 1, 2, 3, 4, 5, 6);
        toldBehindEach(0, NOTHING_SAID, 0, 1, 2, 3, 4, 5, 6);
    }

    private static void toldRank() {
        Sentences.of("Promise 5", "1 RANK,");
        toldBehindEach(1, ALL_TOLD, 0, 1, 2, 3, 4, 5, 6);
        toldBehindEach(1, NOTHING_SAID, 0, 0, 0, 0, 0, 0, 0);
    }

    private static void toldFree() {
        Sentences.of("Promise 5", "2 FREE rows,");
        toldBehindEach(2, ALL_TOLD, 6, 5, 4, 3, 2, 1, 0);
        toldBehindEach(2, NOTHING_SAID, 6, 6, 6, 6, 6, 6, 6);
    }

    private static void toldTold() {
        Sentences.of("Promise 5", "3 how many UNKNOWNS are TOLD,");
        toldBehindEach(3, ALL_TOLD, 0, 1, 2, 3, 4, 5, 6);
        toldBehindEach(3, NOTHING_SAID, 0, 0, 0, 0, 0, 0, 0);
        toldBehindEach(3, new String[] {"u*v=a", "v*w=a", "w*x=a", "x*y=a", "y*z=a", "z=a"}, 0, 0, 0, 0, 0, 0, 6);
    }

    private static void toldLetters() {
        Sentences.of("Promise 5", "4 letters of THE TEXT,");
        UnitVectors x = new UnitVectors();
        due("told(4) at first", x.told(4), 0);
        for (int letters = 1; letters <= 60; letters++) {
            x.feed('u');
            due("told(4)", x.told(4), letters);
        }
        x.feed('u');
        due("told(4) behind FULL", x.told(4), 60);
        x.wipe();
        due("told(4) behind wipe()", x.told(4), 0);
    }

    private static void toldSpare() {
        Sentences.of("Promise 5", "5 how many SAYINGS are SPARE,");
        toldBehindEach(5, ALL_TOLD, 0, 0, 0, 0, 0, 0, 0);
        toldBehindEach(5, NOTHING_SAID, 0, 1, 2, 3, 4, 5, 6);
        toldBehindEach(5, new String[] {"u=a", "v=a", "u*v=a^2", "u/v=1", "w=1", "w^2=1"}, 0, 0, 0, 3, 4, 4, 6);
    }

    private static void toldFewest() {
        Sentences.of("Promise 5", "6 FEWEST: how many,");
        toldBehindEach(6, ALL_TOLD, 0, 1, 2, 3, 4, 5, 6);
        toldBehindEach(6, NOTHING_SAID, 0, 0, 0, 0, 0, 0, 0);
        toldBehindEach(6, new String[] {"u=a", "v=a", "u*v=a^2", "u/v=1", "w=1", "w^2=1"}, 0, 1, 2, 2, 2, 3, 3);
    }

    private static void toldSet() {
        Sentences.of("Promise 5", "7 the SET,");
        toldBehindEach(7, ALL_TOLD, 0, 1, 3, 7, 15, 31, 63);
        toldBehindEach(7, NOTHING_SAID, 0, 0, 0, 0, 0, 0, 0);
        toldBehindEach(7, new String[] {"1=1", "u*v=a^2", "u^2*v^2=a^4", "u=a", "v=a", "z=1"}, 0, 0, 2, 2, 10, 10, 42);
    }

    private static void toldUndone() {
        Sentences.of("Promise 5", "8 how many can be undone.");
        UnitVectors x = new UnitVectors();
        due("told(8) at first", x.told(8), 0);
        for (int deeds = 1; deeds <= 25; deeds++) {
            x.scale(0, 2, 1);
            due("told(8)", x.told(8), Math.min(deeds, 20));
        }
        x.undo(19);
        due("told(8) behind undo(19)", x.told(8), 1);
        x.undo(1);
        due("told(8) behind all", x.told(8), 0);
    }

    private static void toldOutside() {
        Sentences.of("Promise 5", "OUTSIDE.");
        UnitVectors x = Due.saying(ALL_TOLD);
        for (int what : around(0, 8)) {
            due("told(" + what + ")", x.told(what), OUTSIDE);
        }
        due("told(8)", x.told(8), 6);
        due("told(0)", x.told(0), 6);
    }

    // ---- promise 6

    private static void say() {
        saySaid();
        sayFault();
        sayClash();
        sayFull();
    }

    private static void saySaid() {
        Sentences.of("Promise 6", "THE TEXT is said: how many SAYINGS;");
        UnitVectors x = Due.saying(ALL_TOLD);
        due("six", x.told(0), 6);
        due("back(5)", x.back(5), 5);
        due("a sixth again", Due.say(x, "z=1"), 6);
        due("the latest is the last", x.saying(5, 5), 101);
        x = Due.saying("u^9/z^9=a^9/d^9", "u^-9*z^9=a^-9*d^9");
        due("the greatest powers", x.told(1), 1);
        due("one that says nothing", Due.say(x, "1=1"), 3);
    }

    private static void sayFault() {
        Sentences.of("Promise 6", "-10 less the number of its FAULT.");
        UnitVectors x = Due.saying("u=a");
        due("FAULT 1", Due.say(x, "v=b)"), -11);
        due("FAULT 2", Due.say(x, "v=(((((((b"), -12);
        due("FAULT 3", Due.say(x, "v^9*v=b"), -13);
        due("FAULT 1 of the empty text", x.say(), -11);
        due("FAULT 1 of an EXPRESSION", Due.say(x, "v*b"), -11);
        due("FAULT 3 where it would CLASH, too", Due.say(x, "u^9*u=b"), -13);
        due("nothing more is said", x.told(0), 1);
        due("no deed", x.told(8), 1);
    }

    private static void sayClash() {
        Sentences.of("Promise 6", "NOT: it CLASHES;");
        UnitVectors x = Due.saying("u*v=a", "u/v=a");
        due("u=b", Due.say(x, "u=b"), NOT);
        due("u=a^2", Due.say(x, "u=a^2"), NOT);
        due("u=a*b", Due.say(x, "u=a*b"), NOT);
        due("v=d", Due.say(x, "v=d"), NOT);
        due("1=d^9", Due.say(x, "1=d^9"), NOT);
        due("w^2=u", Due.say(x, "w^2=u"), NOT);
        due("nothing more is said", x.told(0), 2);
        due("no deed", x.told(8), 2);
        due("w^2=u^2", Due.say(x, "w^2=u^2"), 3);
        due("w=a now", x.least(2, 0), SHIFT + 1);
        x.back(0);
        due("u=a*b, u*v being taken back", Due.say(x, "u=a*b"), 3);
    }

    private static void sayFull() {
        Sentences.of("Promise 6", "FULL (6; ahead of NOT, behind a FAULT).");
        UnitVectors x = Due.saying(ALL_TOLD);
        due("a seventh that FOLLOWS", Due.say(x, "u=a"), FULL);
        due("a seventh that CLASHES", Due.say(x, "u=b"), FULL);
        due("a seventh without UNKNOWNS that CLASHES", Due.say(x, "a=b"), FULL);
        due("a seventh with FAULT 1", Due.say(x, "u=a)"), -11);
        due("its letter", x.fault(), 3);
        due("a seventh with FAULT 2", Due.say(x, "u=((((((("), -12);
        due("a seventh with FAULT 3", Due.say(x, "u^9=1/u"), -13);
        due("six", x.told(0), 6);
        due("no deed", x.told(8), 6);
        x.back(0);
        due("one that CLASHES, with five", Due.say(x, "v=a"), NOT);
        due("a sixth", Due.say(x, "u=a"), 6);
    }

    // ---- promise 7

    private static void back() {
        backLeft();
        backUnknown();
    }

    private static void backLeft() {
        Sentences.of("Promise 7", "TAKEN BACK: how many are left.");
        UnitVectors first = Due.saying(ALL_TOLD);
        UnitVectors last = Due.saying(ALL_TOLD);
        for (int left = 5; left >= 0; left--) {
            due("back(0)", first.back(0), left);
            due("FREE rows", first.told(2), 6 - left);
            due("back(" + left + ")", last.back(left), left);
            due("TOLD", last.told(3), left);
        }
        due("all is free", first.told(2), 6);
        due("nothing is in the LEAST SOLUTION", last.least(0, 0), SHIFT);
        UnitVectors x = Due.saying("u=a", "u=a");
        due("one of two like ones", x.back(0), 1);
        due("u is TOLD still", x.isTold(0), 1);
    }

    private static void backUnknown() {
        Sentences.of("Promise 7", "UNKNOWN.");
        UnitVectors x = new UnitVectors();
        due("back(0) of none", x.back(0), UNKNOWN);
        for (int many = 1; many <= 6; many++) {
            Due.said(x, "1=1", many);
            for (int k : around(0, many - 1)) {
                due("back(" + k + ") of " + many, x.back(k), UNKNOWN);
            }
        }
        due("all are there", x.told(0), 6);
        due("no deeds", x.told(8), 6);
        x.back(5);
        due("back(5) of five", x.back(5), UNKNOWN);
    }

    // ---- promise 8

    private static void scale() {
        scaleCounts();
        scaleRefused();
    }

    private static void scaleCounts() {
        Sentences.of("Promise 8", "SCALE of a BASE (1 .. 12 each): how many SCALES are not 1.");
        UnitVectors x = new UnitVectors();
        due("scale(0, 1, 1)", x.scale(0, 1, 1), 0);
        due("scale(0, 12, 1)", x.scale(0, 12, 1), 1);
        due("scale(0, 1, 12)", x.scale(0, 1, 12), 1);
        due("scale(1, 2, 1)", x.scale(1, 2, 1), 2);
        due("scale(2, 1, 2)", x.scale(2, 1, 2), 3);
        due("scale(3, 12, 11)", x.scale(3, 12, 11), 4);
        due("scale(3, 12, 12): as a fraction it is 1", x.scale(3, 12, 12), 3);
        due("scale(2, 2, 2)", x.scale(2, 2, 2), 2);
        due("scale(1, 1, 1)", x.scale(1, 1, 1), 1);
        due("scale(0, 1, 1)", x.scale(0, 1, 1), 0);
        for (int above = 1; above <= 12; above++) {
            for (int below = 1; below <= 12; below++) {
                due("scale(2, " + above + ", " + below + ")", x.scale(2, above, below), above == below ? 0 : 1);
            }
        }
    }

    private static void scaleRefused() {
        Sentences.of("Promise 8", "UNKNOWN, OUTSIDE.");
        UnitVectors x = new UnitVectors();
        x.scale(0, 5, 1);
        for (int base : around(0, 3)) {
            due("scale(" + base + ", 1, 1)", x.scale(base, 1, 1), UNKNOWN);
            due("scale(" + base + ", 0, 13)", x.scale(base, 0, 13), UNKNOWN);
        }
        for (int number : around(1, 12)) {
            due("scale(0, " + number + ", 1)", x.scale(0, number, 1), OUTSIDE);
            due("scale(0, 12, " + number + ")", x.scale(0, 12, number), OUTSIDE);
            due("scale(3, " + number + ", " + number + ")", x.scale(3, number, number), OUTSIDE);
        }
        due("no deeds", x.told(8), 1);
        due("the SCALE stays", Due.converted(x, "a*d", 1, 0), 5);
    }

    // ---- promise 9

    private static void drift() {
        driftTimes();
        driftOutside();
    }

    private static void driftTimes() {
        Sentences.of("Promise 9", "n times BY DRAWS (1 .. 20): SAYINGS.");
        for (int n = 1; n <= 20; n++) {
            UnitVectors x = new UnitVectors();
            long answer = x.drift(n);
            due("drift(" + n + ") tells SAYINGS", answer, x.told(0));
            due("times", x.told(8), n);
            long seed = 0;
            for (int i = 0; i < 4 * n; i++) {
                seed = (seed * 1103515245L + 12345L) % 2147483648L;
            }
            due("four DRAWS each", x.seed(0), seed);
        }
        UnitVectors x = Due.saying(NOTHING_SAID);
        due("drift(20) of six", x.drift(20), 6);
    }

    private static void driftOutside() {
        Sentences.of("Promise 9", "OUTSIDE.");
        UnitVectors x = Due.saying("u=a");
        x.seed(5);
        for (int n : around(1, 20)) {
            due("drift(" + n + ")", x.drift(n), OUTSIDE);
        }
        due("nothing is said", x.told(0), 1);
        due("no deed", x.told(8), 1);
        due("no DRAW", x.seed(0), 5);
    }

    // ---- promise 10

    private static void undo() {
        undoLatest();
        undoRefused();
    }

    private static void undoLatest() {
        Sentences.of("Promise 10", "The n latest (1 .. 20) are undone: SAYINGS.");
        for (int n = 1; n <= 20; n++) {
            UnitVectors x = new UnitVectors();
            for (int deed = 0; deed < 20; deed++) {
                if (deed < 6) {
                    Due.said(x, ALL_TOLD[deed], deed + 1);
                } else {
                    x.scale(0, deed % 12 + 1, 1);
                }
            }
            int left = 20 - n;
            due("undo(" + n + ")", x.undo(n), Math.min(left, 6));
            due("TOLD", x.told(3), Math.min(left, 6));
            due("left", x.told(8), left);
            due("the SCALE", Due.converted(x, "a", 1, 0), left > 6 ? (left - 1) % 12 + 1 : 1);
        }
        UnitVectors x = Due.saying("u=a", "v=b", "w=c");
        x.back(1);
        due("undo(1) of back(1)", x.undo(1), 3);
        due("in its old place", x.saying(1, 1), 101);
        due("the later one, too", x.saying(2, 2), 101);
        due("undo(3)", x.undo(3), 0);
    }

    private static void undoRefused() {
        Sentences.of("Promise 10", "OUTSIDE, NOT: not so many.");
        UnitVectors x = new UnitVectors();
        for (int n = 1; n <= 20; n++) {
            due("undo(" + n + ") of none", x.undo(n), NOT);
        }
        for (int n : around(1, 20)) {
            due("undo(" + n + ") of none", x.undo(n), OUTSIDE);
        }
        for (int deeds = 1; deeds < 20; deeds++) {
            x.scale(0, deeds % 12 + 1, 1);
            due("undo(" + (deeds + 1) + ") of " + deeds, x.undo(deeds + 1), NOT);
        }
        due("nothing is undone", x.told(8), 19);
        due("the SCALE stays", Due.converted(x, "a", 1, 0), 8);
        x.drift(20);
        for (int n : around(1, 20)) {
            due("undo(" + n + ") of 20", x.undo(n), OUTSIDE);
        }
        x.undo(20);
        due("undo(1) behind undo(20)", x.undo(1), NOT);
    }

    // ---- promise 11

    private static void saying() {
        sayingPowers();
        sayingSpare();
        sayingShift();
        sayingRefused();
    }

    private static void sayingPowers() {
        Sentences.of("Promise 11", "Of a SAYING: the left side less the right one, what = 0 .. 5 the power of an UNKNOWN, 6 .. 9 of a BASE,");
        String letters = "uvwxyzabcd";
        for (int i = 0; i < 10; i++) {
            for (int other = 0; other < 2; other++) {
                char letter = letters.charAt(i);
                // a BASE alone would CLASH, so z goes with it
                String text = i < 6 ? letter + "^3=1" : "z=1/" + letter + "^3";
                text = other == 0 ? text : text.replace("=", "*" + letter + "^4=" + letter + "^4*");
                UnitVectors x = Due.saying(text);
                for (int what = 0; what < 10; what++) {
                    int want = what == i ? 103 : what == 5 && i >= 6 ? 101 : 100;
                    due("saying(0, " + what + ") of " + text, x.saying(0, what), want);
                }
            }
        }
        UnitVectors x = Due.saying("1=u*a");
        due("what is on the right is less", x.saying(0, 0), 99);
        due("a BASE on the right, too", x.saying(0, 6), 99);
    }

    private static void sayingSpare() {
        Sentences.of("Promise 11", "10 1 it is SPARE, 0 not;");
        UnitVectors x = Due.saying("1=1", "u=a", "v=b", "u*v=a*b", "w=1", "w^9=1");
        int[] want = {1, 1, 1, 1, 1, 1};
        for (int k = 0; k < 6; k++) {
            due("saying(" + k + ", 10)", x.saying(k, 10), want[k]);
        }
        x.back(3);
        int[] then = {1, 0, 0, 1, 1};
        for (int k = 0; k < 5; k++) {
            due("saying(" + k + ", 10) then", x.saying(k, 10), then[k]);
        }
    }

    private static void sayingShift() {
        Sentences.of("Promise 11", "powers and 100.");
        UnitVectors x = Due.saying("u^9*v^-9=a^-9*b^9*c^0");
        int[] want = {109, 91, 100, 100, 100, 100, 109, 91, 100, 100};
        for (int what = 0; what < 10; what++) {
            due("saying(0, " + what + ")", x.saying(0, what), want[what]);
        }
    }

    private static void sayingRefused() {
        Sentences.of("Promise 11", "UNKNOWN, OUTSIDE.");
        UnitVectors x = new UnitVectors();
        due("saying(0, 0) of none", x.saying(0, 0), UNKNOWN);
        due("saying(0, 10) of none", x.saying(0, 10), UNKNOWN);
        due("saying(0, 11) of none", x.saying(0, 11), UNKNOWN);
        for (int many = 1; many <= 6; many++) {
            Due.said(x, "1=1", many);
            for (int k : around(0, many - 1)) {
                due("saying(" + k + ", 0) of " + many, x.saying(k, 0), UNKNOWN);
                due("saying(" + k + ", -1) of " + many, x.saying(k, -1), UNKNOWN);
            }
            for (int what : around(0, 10)) {
                due("saying(" + (many - 1) + ", " + what + ")", x.saying(many - 1, what), OUTSIDE);
            }
        }
    }

    // ---- promise 12

    private static void free() {
        freeNumbers();
        freeRefused();
    }

    private static void freeNumbers() {
        Sentences.of("Promise 12", "Number j (0 .. 5) of a FREE row, and 1000000000000.");
        UnitVectors x = Due.saying("u^9*z^9=1", "v=w^9");
        int[][] want = {{1, 0, 0, 0, 0, -1}, {0, 9, 1, 0, 0, 0}, {0, 0, 0, 1, 0, 0}, {0, 0, 0, 0, 1, 0}};
        for (int i = 0; i < 4; i++) {
            for (int j = 0; j < 6; j++) {
                due("free(" + i + ", " + j + ")", x.free(i, j), SHIFT + want[i][j]);
            }
        }
        UnitVectors chain = Due.saying("u=v^9", "v=w^9", "w=x^9", "x=y^9", "y=z^9");
        for (int j = 0; j < 6; j++) {
            due("a great one, 9 times " + (5 - j), chain.free(0, j), SHIFT + Math.round(Math.pow(9, 5 - j)));
        }
        UnitVectors turned = Due.saying("u*v^9=1", "v*w^9=1", "w*x^9=1", "x*y^9=1", "y*z^9=1");
        for (int j = 0; j < 6; j++) {
            due("and below 0", turned.free(0, j), SHIFT + (j % 2 == 0 ? 1 : -1) * Math.round(Math.pow(9, 5 - j)));
        }
    }

    private static void freeRefused() {
        Sentences.of("Promise 12", "UNKNOWN, OUTSIDE.");
        UnitVectors x = new UnitVectors();
        for (int many = 0; many <= 6; many++) {
            int rows = 6 - many;
            due("free(" + rows + ", 0) of " + rows, x.free(rows, 0), UNKNOWN);
            due("free(" + rows + ", 6) of " + rows, x.free(rows, 6), UNKNOWN);
            due("free(-1, 0)", x.free(-1, 0), UNKNOWN);
            if (rows > 0) {
                due("free(" + (rows - 1) + ", 5)", x.free(rows - 1, 5), SHIFT + 1);
                for (int j : around(0, 5)) {
                    due("free(" + (rows - 1) + ", " + j + ")", x.free(rows - 1, j), OUTSIDE);
                }
            }
            if (many < 6) {
                Due.said(x, ALL_TOLD[many].charAt(0) + "=1", many + 1);
            }
        }
        due("free(LEAST_INT, 0)", x.free(LEAST_INT, 0), UNKNOWN);
        due("free(MOST_INT, 0)", x.free(MOST_INT, 0), UNKNOWN);
    }

    // ---- promise 13

    private static void least() {
        leastPowers();
        leastUnknown();
    }

    private static void leastPowers() {
        Sentences.of("Promise 13", "The power of a BASE of an UNKNOWN in the LEAST SOLUTION, and 1000000000000.");
        UnitVectors x = Due.saying("u=a^9", "v=b^-9", "w=c", "x=1/d", "y=1");
        int[][] want = {{9, 0, 0, 0}, {0, -9, 0, 0}, {0, 0, 1, 0}, {0, 0, 0, -1}, {0, 0, 0, 0}, {0, 0, 0, 0}};
        for (int unknown = 0; unknown < 6; unknown++) {
            for (int base = 0; base < 4; base++) {
                due("least(" + unknown + ", " + base + ")", x.least(unknown, base), SHIFT + want[unknown][base]);
            }
        }
        UnitVectors chain = Due.saying("z=a^9", "y=z^9", "x=y^9", "w=x^9", "v=w^9", "u=v^-9");
        long power = 9;
        for (int unknown = 5; unknown > 0; unknown--) {
            due("great: least(" + unknown + ", 0)", chain.least(unknown, 0), SHIFT + power);
            power *= 9;
        }
        due("and below 0", chain.least(0, 0), SHIFT - power);
    }

    private static void leastUnknown() {
        Sentences.of("Promise 13", "UNKNOWN.");
        UnitVectors x = Due.saying("u=a", "z=d");
        for (int unknown : around(0, 5)) {
            due("least(" + unknown + ", 0)", x.least(unknown, 0), UNKNOWN);
            due("least(" + unknown + ", 4)", x.least(unknown, 4), UNKNOWN);
        }
        for (int base : around(0, 3)) {
            due("least(5, " + base + ")", x.least(5, base), UNKNOWN);
        }
        due("least(5, 3)", x.least(5, 3), SHIFT + 1);
    }

    // ---- promise 14

    private static void isTold() {
        isToldOrNot();
        isToldUnknown();
    }

    private static void isToldOrNot() {
        Sentences.of("Promise 14", "1 an UNKNOWN is TOLD, 0 not.");
        UnitVectors x = new UnitVectors();
        for (int many = 0; many <= 6; many++) {
            for (int unknown = 0; unknown < 6; unknown++) {
                due("isTold(" + unknown + ") of " + many, x.isTold(unknown), unknown < many ? 1 : 0);
            }
            if (many < 6) {
                Due.said(x, ALL_TOLD[many], many + 1);
            }
        }
        x = Due.saying("u*v=a", "w^2=1");
        due("bound, not TOLD", x.isTold(0), 0);
        due("bound, not TOLD", x.isTold(1), 0);
        due("TOLD to be nothing", x.isTold(2), 1);
    }

    private static void isToldUnknown() {
        Sentences.of("Promise 14", "UNKNOWN.");
        UnitVectors x = Due.saying(ALL_TOLD);
        for (int unknown : around(0, 5)) {
            due("isTold(" + unknown + ")", x.isTold(unknown), UNKNOWN);
        }
        due("isTold(5)", x.isTold(5), 1);
    }

    // ---- promise 15

    private static void follows() {
        followsOrNot();
        followsFault();
    }

    private static void followsOrNot() {
        Sentences.of("Promise 15", "THE TEXT, a SAYING: 1 it FOLLOWS, 0 not;");
        UnitVectors x = new UnitVectors();
        due("1=1 of nothing said", Due.follows(x, "1=1"), 1);
        due("u=1 of nothing said", Due.follows(x, "u=1"), 0);
        due("1=a of nothing said", Due.follows(x, "1=a"), 0);
        x = Due.saying(ALL_TOLD);
        due("z=a*b of all told", Due.follows(x, "z=a*b"), 1);
        due("z^9=(a*b)^9", Due.follows(x, "z^9=(a*b)^9"), 1);
        due("z=a", Due.follows(x, "z=a"), 0);
        due("with six said none is put to them", x.told(0), 6);
        x.back(0);
        due("z=a*b then", Due.follows(x, "z=a*b"), 0);
        due("z=u*b then", Due.follows(x, "z=u*b"), 1);
    }

    private static void followsFault() {
        Sentences.of("Promise 15", "-10 less the number of its FAULT.");
        UnitVectors x = Due.saying(ALL_TOLD);
        due("the empty text", x.follows(), -11);
        due("its letter", x.fault(), 0);
        due("an EXPRESSION", Due.follows(x, "u"), -11);
        due("its letter", x.fault(), 1);
        due("a seventh bracket", Due.follows(x, "u=(((((((a"), -12);
        due("its letter", x.fault(), 8);
        due("a great power that would FOLLOW", Due.follows(x, "(u/a)^9*u/a=1"), -13);
        due("its letter", x.fault(), 13);
    }

    // ---- promise 16

    private static void couldBe() {
        couldBeOrNot();
        couldBeFault();
    }

    private static void couldBeOrNot() {
        Sentences.of("Promise 16", "THE TEXT, a SAYING: 1 it COULD BE, 0 not;");
        UnitVectors x = new UnitVectors();
        due("u=a of nothing said", Due.couldBe(x, "u=a"), 1);
        due("u^2=a of nothing said", Due.couldBe(x, "u^2=a"), 0);
        due("1=a of nothing said", Due.couldBe(x, "1=a"), 0);
        due("1=1 of nothing said", Due.couldBe(x, "1=1"), 1);
        x = Due.saying(ALL_TOLD);
        due("z=a*b of all told", Due.couldBe(x, "z=a*b"), 1);
        due("z=a of all told", Due.couldBe(x, "z=a"), 0);
        due("with six said none is put to them", x.told(0), 6);
        x.back(5);
        due("z=a then", Due.couldBe(x, "z=a"), 1);
        due("z=a, and z=b then, too", Due.couldBe(x, "z=b"), 1);
    }

    private static void couldBeFault() {
        Sentences.of("Promise 16", "-10 less the number of its FAULT.");
        UnitVectors x = new UnitVectors();
        due("the empty text", x.couldBe(), -11);
        due("its letter", x.fault(), 0);
        due("an EXPRESSION", Due.couldBe(x, "u "), -11);
        due("its letter", x.fault(), 2);
        due("a seventh bracket", Due.couldBe(x, "((((((("), -12);
        due("its letter", x.fault(), 6);
        due("a great power", Due.couldBe(x, "u^9*u=1"), -13);
        due("its letter", x.fault(), 7);
    }

    // ---- promise 17

    private static void measured() {
        measuredPowers();
        measuredRows();
        measuredShift();
        measuredFault();
        measuredOutside();
    }

    private static void measuredPowers() {
        Sentences.of("Promise 17", "THE TEXT, an EXPRESSION: what = 0 .. 3 the power of a BASE it is MEASURED IN,");
        UnitVectors x = Due.saying("u=a^9", "v=d^-9");
        int[] want = {81, 0, 1, -90};
        for (int base = 0; base < 4; base++) {
            due("measured(" + base + ")", Due.measured(x, "u^9*v^9*c/d^9", base), SHIFT + want[base]);
            due("measured(" + base + ") of 1", Due.measured(x, "1", base), SHIFT);
            due("measured(" + base + ") of w, which is free", Due.measured(x, "w^9", base), SHIFT);
        }
    }

    private static void measuredRows() {
        Sentences.of("Promise 17", "4 .. 9 how much it goes up with that FREE row (0: there is none),");
        UnitVectors x = new UnitVectors();
        String text = "u*v^2*w^3*x^4*y^5*z^9*a^9";
        int[] first = {1, 2, 3, 4, 5, 9};
        for (int row = 0; row < 6; row++) {
            due("measured(" + (4 + row) + ") of nothing said", Due.measured(x, text, 4 + row), SHIFT + first[row]);
        }
        x = Due.saying("u^2=v^3", "w=1");
        // FREE rows: 3 2 . . . ., then x, y, z
        int[] then = {7, 4, 5, 9, 0, 0};
        for (int row = 0; row < 6; row++) {
            due("measured(" + (4 + row) + ") with four rows", Due.measured(x, text, 4 + row), SHIFT + then[row]);
        }
        x = Due.saying(ALL_TOLD);
        for (int row = 0; row < 6; row++) {
            due("measured(" + (4 + row) + ") with no row", Due.measured(x, text, 4 + row), SHIFT);
        }
    }

    private static void measuredShift() {
        Sentences.of("Promise 17", "and 1000000000000 each;");
        UnitVectors x = Due.saying("u*v^9=a^-9");
        // FREE row: 9 -1; least: u is 0, v is -1
        due("a power below 0", Due.measured(x, "v^9", 0), SHIFT - 9);
        due("a power above 0", Due.measured(x, "v^-9", 0), SHIFT + 9);
        due("going up by less than 0", Due.measured(x, "u^-9", 4), SHIFT - 81);
        due("going up", Due.measured(x, "u^9", 4), SHIFT + 81);
    }

    private static void measuredFault() {
        Sentences.of("Promise 17", "-10 less the number of its FAULT.");
        UnitVectors x = new UnitVectors();
        for (int what = 0; what < 10; what += 9) {
            due("the empty text", x.measured(what), -11);
            due("its letter", x.fault(), 0);
            due("a SAYING", Due.measured(x, "u=a", what), -11);
            due("its letter", x.fault(), 1);
            due("a seventh bracket", Due.measured(x, "a*(((((((a", what), -12);
            due("its letter", x.fault(), 8);
            due("a great power", Due.measured(x, "u^-9/u", what), -13);
            due("its letter", x.fault(), 6);
        }
    }

    private static void measuredOutside() {
        Sentences.of("Promise 17", "OUTSIDE (THE TEXT stays).");
        UnitVectors x = new UnitVectors();
        Due.type(x, "a^5");
        for (int what : around(0, 9)) {
            due("measured(" + what + ")", x.measured(what), OUTSIDE);
            due("told(4)", x.told(4), 3);
        }
        due("it is read then", x.measured(0), SHIFT + 5);
        Due.type(x, "a)");
        due("OUTSIDE is ahead of a FAULT", x.measured(10), OUTSIDE);
        due("the FAULT is not told yet", x.fault(), NONE);
        due("it is then", x.measured(9), -11);
    }

    // ---- promise 18

    private static void converted() {
        convertedByLaw();
        convertedFault();
        convertedOutside();
        convertedNot();
    }

    private static void convertedByLaw() {
        Sentences.of("Promise 18", "THE TEXT, an EXPRESSION: v (0 .. 1000000) CONVERTED by a LAW (0 .. 3);");
        UnitVectors x = new UnitVectors();
        for (int law = 0; law < 4; law++) {
            due("0 by " + law, Due.converted(x, "a", 0, law), 0);
            due("1000000 by " + law, Due.converted(x, "a", 1000000, law), 1000000);
        }
        x.scale(0, 12, 1);
        x.scale(1, 1, 8);
        long[] halves = {62, 63, 63, 62};
        for (int law = 0; law < 4; law++) {
            due("0 of great ones by " + law, Due.converted(x, "a^3", 0, law), 0);
            due("1000000 of great ones by " + law, Due.converted(x, "a^3", 1000000, law), 1728000000);
            due("500 of eighths by " + law, Due.converted(x, "b", 500, law), halves[law]);
        }
    }

    private static void convertedFault() {
        Sentences.of("Promise 18", "-10 less the number of its FAULT.");
        UnitVectors x = new UnitVectors();
        due("the empty text", x.converted(0, 0), -11);
        due("its letter", x.fault(), 0);
        due("a SAYING", Due.converted(x, "a=a", 1000000, 3), -11);
        due("its letter", x.fault(), 1);
        due("a seventh bracket", Due.converted(x, "(((((((a", 1, 1), -12);
        due("its letter", x.fault(), 6);
        due("a great power, not NOT", Due.converted(x, "a^9*a", 1, 1), -13);
        due("its letter", x.fault(), 5);
        due("a great power of an UNKNOWN, not NOT", Due.converted(x, "u^9*u", 1, 1), -13);
        due("an UNKNOWN and FAULT 1, not NOT", Due.converted(x, "u)", 1, 1), -11);
    }

    private static void convertedOutside() {
        Sentences.of("Promise 18", "OUTSIDE (v, LAW; THE TEXT stays),");
        UnitVectors x = new UnitVectors();
        x.scale(0, 3, 1);
        Due.type(x, "a^2");
        for (int v : around(0, 1000000)) {
            due("converted(" + v + ", 0)", x.converted(v, 0), OUTSIDE);
            due("told(4)", x.told(4), 3);
        }
        for (int law : around(0, 3)) {
            due("converted(5, " + law + ")", x.converted(5, law), OUTSIDE);
            due("told(4)", x.told(4), 3);
        }
        due("it is read then", x.converted(5, 3), 45);
        Due.type(x, "a)");
        due("OUTSIDE is ahead of a FAULT", x.converted(-1, 0), OUTSIDE);
        due("OUTSIDE is ahead of a FAULT", x.converted(0, 4), OUTSIDE);
        due("the FAULT is not told yet", x.fault(), NONE);
        Due.type(x, "u");
        due("OUTSIDE is ahead of NOT", x.converted(1000001, 0), OUTSIDE);
        due("told(4)", x.told(4), 1);
        due("NOT then", x.converted(1000000, 0), NOT);
    }

    private static void convertedNot() {
        Sentences.of("Promise 18", "NOT: the POWER of an UNKNOWN is not 0, of a BASE beyond 3 or -3.");
        UnitVectors x = Due.saying("u=1", "v=a");
        for (String text : new String[] {"u", "1/u", "u^9", "v/a", "z^-9", "a^3*z"}) {
            due("converted(1, 0) of " + text, Due.converted(x, text, 1, 0), NOT);
            due("told(4)", x.told(4), 0);
        }
        for (char base = 'a'; base <= 'd'; base++) {
            due(base + "^3", Due.converted(x, base + "^3", 1, 0), 1);
            due(base + "^-3", Due.converted(x, base + "^-3", 1, 0), 1);
            due(base + "^4", Due.converted(x, base + "^4", 1, 0), NOT);
            due(base + "^-4", Due.converted(x, base + "^-4", 1, 0), NOT);
            due(base + "^9", Due.converted(x, base + "^9", 0, 0), NOT);
        }
        due("u^9/u^9*a^9/a^6", Due.converted(x, "u^9/u^9*a^9/a^6", 1, 0), 1);
    }

    // ---- promise 19

    private static void seed() {
        seedWas();
        seedOutside();
    }

    private static void seedWas() {
        Sentences.of("Promise 19", "THE SEED becomes v (0 .. 2147483647): what it was.");
        UnitVectors x = new UnitVectors();
        due("seed(2147483647)", x.seed(2147483647), 0);
        due("seed(0)", x.seed(0), 2147483647);
        due("seed(1)", x.seed(1), 0);
        due("seed(1)", x.seed(1), 1);
        due("no deed", x.told(8), 0);
        x.seed(2147483647);
        x.drift(1);
        UnitVectors y = new UnitVectors();
        y.seed(2147483647);
        y.drift(1);
        due("the same DRAWS from the same", x.seed(0), y.seed(0));
    }

    private static void seedOutside() {
        Sentences.of("Promise 19", "OUTSIDE.");
        UnitVectors x = new UnitVectors();
        x.seed(7);
        due("seed(-1)", x.seed(-1), OUTSIDE);
        due("seed(-2147483648)", x.seed(LEAST_INT), OUTSIDE);
        due("THE SEED stays", x.seed(0), 7);
    }

    // ---- promise 20

    private static void keep() {
        keepWhatIsSo();
        keepForgets();
        keepUnknown();
    }

    private static void keepWhatIsSo() {
        Sentences.of("Promise 20", "IMAGE i becomes what is so");
        UnitVectors x = new UnitVectors();
        due("keep(0) of nothing", x.keep(0), 1);
        UnitVectors six = Due.saying(ALL_TOLD);
        six.scale(3, 12, 1);
        six.seed(2147483647);
        due("keep(1) of six", six.keep(1), 1);
        for (int k = 5; k >= 0; k--) {
            six.back(k);
        }
        six.scale(3, 1, 12);
        six.seed(0);
        due("goBack(0): the other one was not kept", six.goBack(0), NOT);
        due("goBack(1)", six.goBack(1), 1);
        due("SAYINGS", six.told(0), 6);
        due("TOLD", six.told(3), 6);
        due("the SCALE", Due.converted(six, "d", 1, 0), 12);
        due("THE SEED", six.seed(0), 2147483647);
        Due.said(x, "u=a", 1);
        due("goBack(0) to nothing", x.goBack(0), 1);
        due("SAYINGS", x.told(0), 0);
        Due.said(x, "v=b", 1);
        due("keep(0) again", x.keep(0), 1);
        x.back(0);
        due("goBack(0)", x.goBack(0), 1);
        due("what was kept the later time", x.saying(0, 1), 101);
    }

    private static void keepForgets() {
        Sentences.of("Promise 20", "(nothing can be undone then): 1.");
        for (int deeds = 0; deeds <= 21; deeds += 7) {
            for (int i = 0; i < 2; i++) {
                UnitVectors x = new UnitVectors();
                for (int deed = 0; deed < deeds; deed++) {
                    x.scale(0, 2, 1);
                }
                due("keep(" + i + ")", x.keep(i), 1);
                due("told(8)", x.told(8), 0);
                due("undo(1)", x.undo(1), NOT);
                due("what is so stays", x.scale(1, 2, 1), deeds > 0 ? 2 : 1);
                due("that can be undone", x.undo(1), 0);
                due("and no more", x.undo(1), NOT);
            }
        }
    }

    private static void keepUnknown() {
        Sentences.of("Promise 20", "UNKNOWN.");
        UnitVectors x = Due.saying("u=a");
        for (int i : around(0, 1)) {
            due("keep(" + i + ")", x.keep(i), UNKNOWN);
        }
        due("still to be undone", x.told(8), 1);
        due("nothing was kept in 0", x.goBack(0), NOT);
        due("nothing was kept in 1", x.goBack(1), NOT);
    }

    // ---- promise 21

    private static void goBack() {
        goBackToImage();
        goBackForgets();
        goBackUnknown();
        goBackNotKept();
    }

    private static void goBackToImage() {
        Sentences.of("Promise 21", "What is so becomes IMAGE i");
        UnitVectors x = Due.saying("u=a");
        x.scale(0, 7, 1);
        x.seed(5);
        x.keep(0);
        for (int turn = 0; turn < 3; turn++) {
            Due.said(x, "v=b^2", 2);
            due("back(0)", x.back(0), 1);
            x.scale(0, 1, 7);
            x.drift(2);
            due("goBack(0)", x.goBack(0), 1);
            due("SAYINGS", x.told(0), 1);
            due("the first is u=a", x.saying(0, 0), 101);
            due("u in the LEAST SOLUTION", x.least(0, 0), SHIFT + 1);
            due("v in the LEAST SOLUTION", x.least(1, 1), SHIFT);
            due("FREE rows", x.told(2), 5);
            due("the SCALE", Due.converted(x, "a", 3, 0), 21);
            due("THE SEED", x.seed(5), 5);
        }
    }

    private static void goBackForgets() {
        Sentences.of("Promise 21", "(nothing can be undone then): 1.");
        UnitVectors x = new UnitVectors();
        x.keep(1);
        for (int deeds = 0; deeds <= 21; deeds += 7) {
            for (int deed = 0; deed < deeds; deed++) {
                x.scale(0, 2, 1);
            }
            due("goBack(1)", x.goBack(1), 1);
            due("told(8)", x.told(8), 0);
            due("undo(1)", x.undo(1), NOT);
        }
        x.scale(1, 2, 1);
        due("a later deed can be undone", x.undo(1), 0);
    }

    private static void goBackUnknown() {
        Sentences.of("Promise 21", "UNKNOWN,");
        UnitVectors x = Due.saying("u=a");
        for (int i : around(0, 1)) {
            due("goBack(" + i + ") with none kept", x.goBack(i), UNKNOWN);
        }
        x.keep(0);
        x.keep(1);
        x.scale(0, 2, 1);
        for (int i : around(0, 1)) {
            due("goBack(" + i + ") with both kept", x.goBack(i), UNKNOWN);
        }
        due("still to be undone", x.told(8), 1);
    }

    private static void goBackNotKept() {
        Sentences.of("Promise 21", "NOT: it was not kept.");
        for (int kept = 0; kept < 2; kept++) {
            UnitVectors x = Due.saying("u=a");
            due("goBack(0) with none kept", x.goBack(0), NOT);
            due("goBack(1) with none kept", x.goBack(1), NOT);
            due("still to be undone", x.told(8), 1);
            x.keep(kept);
            Due.said(x, "v=b", 2);
            due("goBack() of the other", x.goBack(1 - kept), NOT);
            due("SAYINGS stay", x.told(0), 2);
            due("still to be undone", x.told(8), 1);
            due("goBack() of the one kept", x.goBack(kept), 1);
            due("goBack() of the other still", x.goBack(1 - kept), NOT);
        }
    }
}
