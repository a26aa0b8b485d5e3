/** For each promise of the document: ordinary inputs, the edges that it names, and wrong inputs. */
public final class PromisesTest {
    private static final int NONE = UnitVectors.NONE;
    private static final int UNKNOWN = UnitVectors.UNKNOWN;
    private static final int OUTSIDE = UnitVectors.OUTSIDE;
    private static final int NOT = UnitVectors.NOT;
    private static final int FULL = UnitVectors.FULL;
    private static final long SHIFT = 1000000000000L;
    private static final int[] WRONG = {-2147483648, -1000000001, -100, -2, -1, 100, 1000, 2147483646, 2147483647};

    private PromisesTest() {
    }

    public static void main(String[] args) {
        constants();
        newObject();
        feed();
        wipe();
        fault();
        faultsInOrder();
        powersOfTexts();
        told();
        toldFewest();
        say();
        back();
        scale();
        drift();
        driftSays();
        undo();
        undoKeepsTwenty();
        saying();
        free();
        least();
        isTold();
        follows();
        couldBe();
        measured();
        converted();
        convertedRefused();
        seed();
        keep();
        goBack();
        textStaysAtDeeds();
        Due.end("PromisesTest");
    }

    private static void due(String call, long got, long want) {
        Due.due(call, got, want);
    }

    private static void constants() {
        due("NONE", NONE, -1);
        due("UNKNOWN", UNKNOWN, -1000000001);
        due("OUTSIDE", OUTSIDE, -1000000002);
        due("NOT", NOT, -1000000003);
        due("FULL", FULL, -1000000004);
    }

    // ---- promise 1

    private static void newObject() {
        UnitVectors x = new UnitVectors();
        int[] first = {0, 0, 6, 0, 0, 0, 0, 0, 0};
        for (int what = 0; what < 9; what++) {
            due("new: told(" + what + ")", x.told(what), first[what]);
        }
        due("new: fault()", x.fault(), NONE);
        due("new: wipe()", x.wipe(), 0);
        due("new: saying(0, 0)", x.saying(0, 0), UNKNOWN);
        due("new: back(0)", x.back(0), UNKNOWN);
        due("new: undo(1)", x.undo(1), NOT);
        due("new: goBack(0)", x.goBack(0), NOT);
        due("new: goBack(1)", x.goBack(1), NOT);
        for (int i = 0; i < 6; i++) {
            due("new: isTold", x.isTold(i), 0);
            for (int j = 0; j < 6; j++) {
                due("new: free", x.free(i, j), SHIFT + (i == j ? 1 : 0));
            }
            for (int base = 0; base < 4; base++) {
                due("new: least", x.least(i, base), SHIFT);
            }
        }
        due("new: free(6, 0)", x.free(6, 0), UNKNOWN);
        for (int base = 0; base < 4; base++) {
            due("new: SCALE is 1", Due.converted(x, "" + (char) ('a' + base), 7, 0), 7);
        }
        due("new: seed(5)", x.seed(5), 0);
    }

    // ---- promise 2

    private static void feed() {
        UnitVectors x = new UnitVectors();
        due("feed(0)", x.feed(0), 1);
        due("feed(255)", x.feed(255), 2);
        due("feed(-1)", x.feed(-1), OUTSIDE);
        due("feed(256)", x.feed(256), OUTSIDE);
        for (int wrong : WRONG) {
            if (wrong != 100) {
                due("feed(" + wrong + ")", x.feed(wrong), OUTSIDE);
            }
        }
        due("refused letters are not there", x.told(4), 2);
        for (int i = 3; i <= 60; i++) {
            due("feed number " + i, x.feed('u'), i);
        }
        due("feed of the 61st", x.feed('u'), FULL);
        due("OUTSIDE is ahead of FULL", x.feed(256), OUTSIDE);
        due("still 60", x.told(4), 60);
        due("wipe of 60", x.wipe(), 60);
        due("a text of 60 letters", Due.say(x, "u=a" + "*1".repeat(28) + " "), 1);
        due("its FAULT behind 60", Due.say(x, "u=a" + "*1".repeat(27) + "*  "), -11);
        due("at its length", x.fault(), 60);
    }

    // ---- promise 3

    private static void wipe() {
        UnitVectors x = new UnitVectors();
        x.feed('u');
        x.feed('=');
        x.feed('a');
        due("wipe()", x.wipe(), 3);
        due("wipe() again", x.wipe(), 0);
        due("nothing is left", x.told(4), 0);
        due("the empty text", x.say(), -11);
        due("its fault", x.fault(), 0);
        due("wipe() behind a fault", x.wipe(), 0);
        due("wipe leaves the fault", x.fault(), 0);
    }

    // ---- promise 4

    private static void faultOf(String text, int number, int place) {
        UnitVectors x = new UnitVectors();
        due("say() of " + text, Due.say(x, text), -10 - number);
        due("fault() of " + text, x.fault(), place);
        due("THE TEXT is empty behind " + text, x.told(4), 0);
        due("nothing said by " + text, x.told(0), 0);
        due("follows() of " + text, Due.follows(x, text), -10 - number);
        due("couldBe() of " + text, Due.couldBe(x, text), -10 - number);
        due("fault() again of " + text, x.fault(), place);
        due("empty again behind " + text, x.told(4), 0);
    }

    private static void fault() {
        UnitVectors x = new UnitVectors();
        Due.say(x, "u=)");
        due("fault() of u=)", x.fault(), 2);
        due("asked again", x.fault(), 2);
        Due.type(x, "u=a");
        due("feeding leaves it", x.fault(), 2);
        x.say();
        due("a text without", x.fault(), NONE);
        Due.measured(x, "u=a", 0);
        due("of measured()", x.fault(), 1);
        Due.type(x, "u");
        x.measured(10);
        due("measured() OUTSIDE reads nothing", x.fault(), 1);
        x.converted(-1, 0);
        due("converted() OUTSIDE reads nothing", x.fault(), 1);
        due("converted() NOT reads", x.converted(1, 0), NOT);
        due("so there is no fault", x.fault(), NONE);
        Due.say(x, "(u");
        due("fault() of (u", x.fault(), 2);
        due("a clash is no fault", Due.say(x, "u=b"), NOT);
        due("so none", x.fault(), NONE);
    }

    private static void faultsInOrder() {
        faultOf("", 1, 0);
        faultOf("   ", 1, 3);
        faultOf("u", 1, 1);
        faultOf("u  ", 1, 3);
        faultOf("u=", 1, 2);
        faultOf("=u", 1, 0);
        faultOf("u==a", 1, 2);
        faultOf("u=a=a", 1, 3);
        faultOf("u=a*", 1, 4);
        faultOf("u*/v=a", 1, 2);
        faultOf("uv=a", 1, 1);
        faultOf("u v=a", 1, 2);
        faultOf("u1=a", 1, 1);
        faultOf("11=a", 1, 1);
        faultOf("2=a", 1, 0);
        faultOf("0=a", 1, 0);
        faultOf("e=a", 1, 0);
        faultOf("t=a", 1, 0);
        faultOf("{=a", 1, 0);
        faultOf("U=a", 1, 0);
        faultOf("`=a", 1, 0);
        faultOf("u^=a", 1, 2);
        faultOf("u^-=a", 1, 3);
        faultOf("u^--1=a", 1, 3);
        faultOf("u^a=a", 1, 2);
        faultOf("u^12=a", 1, 3);
        faultOf("u^1^2=a", 1, 3);
        faultOf("u^:=a", 1, 2);
        faultOf("^2=a", 1, 0);
        faultOf("-u=a", 1, 0);
        faultOf("()=a", 1, 1);
        faultOf("(u=a)", 1, 2);
        faultOf("(u)(v)=a", 1, 3);
        faultOf("u(=a", 1, 1);
        faultOf("u)=a", 1, 1);
        faultOf("(u))=a", 1, 3);
        faultOf("(u*a", 1, 4);
        faultOf("u\t=a", 1, 1);
        faultOf("u=a" + (char) 0, 1, 3);
        faultOf("u=a" + (char) 255, 1, 3);
        faultOf("(((((((u=a", 2, 6);
        faultOf("((((((u(", 1, 7);
        faultOf("((((((u)/(v))/(w/(x", 1, 19);
        faultOf("(( ( ((( (u)=", 2, 9);
        faultOf("a=((((((u)*(b*(c", 2, 14);
        faultOf("u^9*u=a", 3, 7);
        faultOf("u^9*u=a  ", 3, 9);
        faultOf("u/u^-9=a", 3, 8);
        faultOf("u^9=u^-1", 3, 8);
        faultOf("a^-9=a", 3, 6);
        faultOf("(d^5)^-2=u", 3, 10);
        faultOf("((((((u^9)^9)^9)^9)^9)^9)^9=a", 3, 29);
        faultOf("u^9*u=a)", 1, 7);
    }

    private static void powersOfTexts() {
        UnitVectors x = new UnitVectors();
        Due.said(x, "u^9*u=u", 1);
        due("only the left less the right counts", x.saying(0, 0), 109);
        Due.said(x, "((((((v))))))=((((((u))))))", 2);
        Due.said(x, "w/x/y*z=a/b/c*d", 3);
        int[] third = {100, 100, 101, 99, 99, 101, 99, 101, 101, 99};
        for (int what = 0; what < 10; what++) {
            due("from the left on: " + what, x.saying(2, what), third[what]);
        }
        Due.said(x, " ( w / ( x * y ) ) ^ - 2 = 1 ^ 7 / ( a ^ 2 ) ^ 3 ", 4);
        int[] fourth = {100, 100, 98, 102, 102, 100, 106, 100, 100, 100};
        for (int what = 0; what < 10; what++) {
            due("brackets and powers: " + what, x.saying(3, what), fourth[what]);
        }
        Due.said(x, "(z^9)^0=1", 5);
        due("to the power of nothing", x.saying(4, 5), 100);
        Due.said(x, "(((x^9)^9)^9)^9/(((x^9)^9)^9)^9=1", 6);
        due("great powers that go away", x.saying(5, 3), 100);
    }

    // ---- promise 5

    private static void told() {
        UnitVectors x = new UnitVectors();
        Due.said(x, "u*v=a", 1);
        Due.said(x, "u=b", 2);
        Due.said(x, "v=a/b", 3);
        Due.said(x, "1=1", 4);
        x.feed('q');
        int[] want = {4, 2, 4, 2, 1, 4, 2, 3, 4};
        for (int what = 0; what < 9; what++) {
            due("told(" + what + ")", x.told(what), want[what]);
        }
        due("told(-1)", x.told(-1), OUTSIDE);
        due("told(9)", x.told(9), OUTSIDE);
        for (int wrong : WRONG) {
            due("told(" + wrong + ")", x.told(wrong), OUTSIDE);
        }
    }

    private static void toldFewest() {
        UnitVectors x = new UnitVectors();
        Due.said(x, "1=1", 1);
        Due.said(x, "u^2=a^2", 2);
        Due.said(x, "u=a", 3);
        Due.said(x, "v*w=b", 4);
        Due.said(x, "v=c", 5);
        Due.said(x, "u*w=a*b/c", 6);
        due("SPARE", x.told(5), 6);
        due("FEWEST", x.told(6), 3);
        due("the SET", x.told(7), 2 + 8 + 16);
        due("back(3)", x.back(3), 5);
        due("SPARE then", x.told(5), 3);
        due("FEWEST then", x.told(6), 3);
        due("the SET then", x.told(7), 2 + 8 + 16);
        due("asked, nothing changes", x.told(0), 5);
    }

    // ---- promise 6

    private static void say() {
        UnitVectors x = new UnitVectors();
        Due.said(x, "u^2=a^2", 1);
        due("u is a then", x.least(0, 0), SHIFT + 1);
        Due.said(x, "u=b", NOT);
        Due.said(x, "v^2=a", NOT);
        Due.said(x, "a=b", NOT);
        Due.said(x, "a=a", 2);
        due("NOT is no deed", x.told(8), 2);
        Due.said(x, "v^2*w^4=a^3", NOT);
        Due.said(x, "v^2*w^4=a^6", 3);
        Due.said(x, "v=w", 4);
        due("v is a then", x.least(1, 0), SHIFT + 1);
        Due.said(x, "x=1", 5);
        Due.said(x, "x=1", 6);
        Due.said(x, "y=1", FULL);
        Due.said(x, "u=b", FULL);
        Due.said(x, "u=", -11);
        due("THE TEXT is empty behind FULL", x.told(4), 0);
        due("six", x.told(0), 6);
        due("six deeds", x.told(8), 6);
    }

    // ---- promise 7

    private static void back() {
        UnitVectors x = new UnitVectors();
        Due.said(x, "u=a", 1);
        Due.said(x, "v=b", 2);
        Due.said(x, "w=c", 3);
        due("back(3)", x.back(3), UNKNOWN);
        due("back(-1)", x.back(-1), UNKNOWN);
        for (int wrong : WRONG) {
            due("back(" + wrong + ")", x.back(wrong), UNKNOWN);
        }
        due("refused is no deed", x.told(8), 3);
        due("back(1)", x.back(1), 2);
        due("later ones have one number less", x.saying(1, 2), 101);
        due("v is free again", x.isTold(1), 0);
        due("w is still told", x.isTold(2), 1);
        Due.said(x, "v=a", 3);
        due("back(0)", x.back(0), 2);
        due("back(0)", x.back(0), 1);
        due("back(0)", x.back(0), 0);
        due("back(0) of none", x.back(0), UNKNOWN);
        due("all is free", x.told(2), 6);
        due("8 deeds", x.told(8), 8);
        for (int i = 0; i < 6; i++) {
            due("free(" + i + ", 0) as at first", x.free(i, 0), SHIFT + (i == 0 ? 1 : 0));
            for (int base = 0; base < 4; base++) {
                due("least(" + i + ", " + base + ") as at first", x.least(i, base), SHIFT);
            }
        }
    }

    // ---- promise 8

    private static void scale() {
        UnitVectors x = new UnitVectors();
        due("scale(0, 12, 1)", x.scale(0, 12, 1), 1);
        due("scale(3, 1, 12)", x.scale(3, 1, 12), 2);
        due("scale(0, 1, 1)", x.scale(0, 1, 1), 1);
        due("scale(3, 5, 5) is 1 as a fraction", x.scale(3, 5, 5), 0);
        due("scale(1, 2, 3)", x.scale(1, 2, 3), 1);
        due("scale(2, 3, 2)", x.scale(2, 3, 2), 2);
        due("all are deeds", x.told(8), 6);
        due("scale(-1, 1, 1)", x.scale(-1, 1, 1), UNKNOWN);
        due("scale(4, 1, 1)", x.scale(4, 1, 1), UNKNOWN);
        due("scale(4, 0, 1): UNKNOWN is first", x.scale(4, 0, 1), UNKNOWN);
        due("scale(0, 0, 1)", x.scale(0, 0, 1), OUTSIDE);
        due("scale(0, 13, 1)", x.scale(0, 13, 1), OUTSIDE);
        due("scale(0, 1, 0)", x.scale(0, 1, 0), OUTSIDE);
        due("scale(0, 1, 13)", x.scale(0, 1, 13), OUTSIDE);
        for (int wrong : WRONG) {
            due("scale(wrong, 1, 1)", x.scale(wrong, 1, 1), UNKNOWN);
            due("scale(0, wrong, 1)", x.scale(0, wrong, 1), OUTSIDE);
            due("scale(0, 1, wrong)", x.scale(0, 1, wrong), OUTSIDE);
        }
        due("refused is no deed", x.told(8), 6);
        due("b is 2/3", Due.converted(x, "b", 9, 0), 6);
        due("c is 3/2", Due.converted(x, "c", 9, 0), 13);
    }

    // ---- promise 9

    private static long afterDraw(long seed) {
        return (seed * 1103515245L + 12345L) % 2147483648L;
    }

    private static void drift() {
        UnitVectors x = new UnitVectors();
        due("drift(0)", x.drift(0), OUTSIDE);
        due("drift(21)", x.drift(21), OUTSIDE);
        for (int wrong : WRONG) {
            due("drift(" + wrong + ")", x.drift(wrong), OUTSIDE);
        }
        due("refused draws nothing", x.seed(0), 0);
        x.drift(20);
        due("each time is a deed", x.told(8), 20);
        long seed = 0;
        for (int i = 0; i < 80; i++) {
            seed = afterDraw(seed);
        }
        due("four draws each time", x.seed(0), seed);
        UnitVectors y = new UnitVectors();
        y.drift(1);
        due("one time, one deed", y.told(8), 1);
        due("undone", y.undo(1), 0);
        due("THE SEED stays", y.seed(0), afterDraw(afterDraw(afterDraw(afterDraw(0)))));
    }

    private static void driftSays() {
        boolean saidSame = false;
        boolean saidNothing = false;
        for (int start = 0; start < 400; start++) {
            UnitVectors x = new UnitVectors();
            Due.follows(x, "u*v*w*x*y*z=a*b*c*d");
            x.seed(start * 5000011);
            long seed = start * 5000011;
            seed = afterDraw(seed);
            int first = (int) (seed / 65536 % 6);
            seed = afterDraw(seed);
            int second = (int) (seed / 65536 % 6);
            seed = afterDraw(seed);
            int often = (int) (seed / 65536 % 5) - 2;
            seed = afterDraw(seed);
            int base = (int) (seed / 65536 % 4);
            int[] want = new int[10];
            want[first] += 1;
            want[second] += often;
            want[6 + base] -= 1;
            boolean isSame = first == second;
            // alone, u^n=a agrees for n = 1 and n = -1 only
            boolean isSaid = !isSame || Math.abs(want[first]) == 1;
            saidSame |= isSame && isSaid;
            saidNothing |= isSame && want[first] == 0;
            due("drift(1) from " + start, x.drift(1), isSaid ? 1 : 0);
            for (int what = 0; what < 10 && isSaid; what++) {
                due("drift(1) from " + start + ", power " + what, x.saying(0, what), want[what] + 100);
            }
            due("a deed in any case", x.told(8), 1);
        }
        due("one with twice the same was said", saidSame ? 1 : 0, 1);
        due("one without an unknown was not", saidNothing ? 1 : 0, 1);
        UnitVectors full = new UnitVectors();
        for (int k = 1; k <= 6; k++) {
            Due.said(full, "1=1", k);
        }
        due("six are the most", full.drift(20), 6);
        due("none of them was drawn", full.told(1), 0);
    }

    // ---- promise 10

    private static void undo() {
        UnitVectors x = new UnitVectors();
        Due.said(x, "u=a", 1);
        x.scale(0, 10, 1);
        Due.said(x, "v=b", 2);
        due("back(0)", x.back(0), 1);
        due("undo(0)", x.undo(0), OUTSIDE);
        due("undo(21)", x.undo(21), OUTSIDE);
        due("undo(5)", x.undo(5), NOT);
        due("undo(20)", x.undo(20), NOT);
        for (int wrong : WRONG) {
            due("undo(" + wrong + ")", x.undo(wrong), OUTSIDE);
        }
        due("undo(1)", x.undo(1), 2);
        due("u=a is number 0 again", x.saying(0, 0), 101);
        due("v=b is number 1 again", x.saying(1, 1), 101);
        due("u is told again", x.isTold(0), 1);
        due("three are left", x.told(8), 3);
        due("undo(2)", x.undo(2), 1);
        due("a SCALE is undone", Due.converted(x, "a", 3, 0), 3);
        due("v is free", x.isTold(1), 0);
        due("undo(2)", x.undo(2), NOT);
        due("undo(1)", x.undo(1), 0);
        due("undo(1)", x.undo(1), NOT);
        due("nothing is said", x.told(2), 6);
        x.scale(2, 1, 10);
        x.scale(2, 1, 5);
        due("undo(1)", x.undo(1), 0);
        due("the number below is as ahead", Due.converted(x, "c", 100, 0), 10);
    }

    private static void undoKeepsTwenty() {
        UnitVectors x = new UnitVectors();
        for (int i = 0; i < 25; i++) {
            x.scale(0, i % 12 + 1, 1);
        }
        due("20 at most", x.told(8), 20);
        due("undo(7)", x.undo(7), 0);
        due("behind 18 of them", Due.converted(x, "a", 1, 0), 6);
        due("13 are left", x.told(8), 13);
        due("undo(14)", x.undo(14), NOT);
        Due.said(x, "u=a", 1);
        due("14 are left", x.told(8), 14);
        due("undo(14)", x.undo(14), 0);
        due("behind 5 of them", Due.converted(x, "a", 1, 0), 5);
        due("none is left", x.told(8), 0);
    }

    // ---- promise 11

    private static void saying() {
        UnitVectors x = new UnitVectors();
        Due.said(x, "u^9/z^9=a^9/d^9", 1);
        Due.said(x, "w=w", 2);
        int[] want = {109, 100, 100, 100, 100, 91, 91, 100, 100, 109, 0};
        for (int what = 0; what < 11; what++) {
            due("saying(0, " + what + ")", x.saying(0, what), want[what]);
            due("saying(1, " + what + ")", x.saying(1, what), what == 10 ? 1 : 100);
        }
        due("saying(2, 0)", x.saying(2, 0), UNKNOWN);
        due("saying(-1, 0)", x.saying(-1, 0), UNKNOWN);
        due("saying(2, 11): UNKNOWN is first", x.saying(2, 11), UNKNOWN);
        due("saying(0, 11)", x.saying(0, 11), OUTSIDE);
        due("saying(0, -1)", x.saying(0, -1), OUTSIDE);
        for (int wrong : WRONG) {
            due("saying(wrong, 0)", x.saying(wrong, 0), UNKNOWN);
            due("saying(0, wrong)", x.saying(0, wrong), OUTSIDE);
        }
        Due.said(x, "u/z=a/d", 3);
        due("spare by the third", x.saying(0, 10), 1);
        due("and the other way round", x.saying(2, 10), 1);
        x.back(0);
        due("needed alone", x.saying(1, 10), 0);
    }

    // ---- promise 12

    private static void freeRow(UnitVectors x, int i, int... want) {
        for (int j = 0; j < 6; j++) {
            due("free(" + i + ", " + j + ")", x.free(i, j), SHIFT + want[j]);
        }
    }

    private static void free() {
        UnitVectors x = new UnitVectors();
        Due.said(x, "u^2*v^3*w^4=1", 1);
        // rows with nothing for u: 3 v + 4 w = 0; the head of u can be 1: 2 + 3 v + 4 w = 0, v from 0 to 3
        freeRow(x, 0, 1, 2, -2, 0, 0, 0);
        freeRow(x, 1, 0, 4, -3, 0, 0, 0);
        freeRow(x, 2, 0, 0, 0, 1, 0, 0);
        freeRow(x, 4, 0, 0, 0, 0, 0, 1);
        due("free(5, 0)", x.free(5, 0), UNKNOWN);
        due("free(5, 6): UNKNOWN is first", x.free(5, 6), UNKNOWN);
        due("free(-1, 0)", x.free(-1, 0), UNKNOWN);
        due("free(0, 6)", x.free(0, 6), OUTSIDE);
        due("free(0, -1)", x.free(0, -1), OUTSIDE);
        for (int wrong : WRONG) {
            due("free(wrong, 0)", x.free(wrong, 0), UNKNOWN);
            due("free(0, wrong)", x.free(0, wrong), OUTSIDE);
        }
        Due.said(x, "x^9=z^6", 2);
        freeRow(x, 0, 1, 2, -2, 0, 0, 0);
        freeRow(x, 1, 0, 4, -3, 0, 0, 0);
        freeRow(x, 2, 0, 0, 0, 2, 0, 3);
        freeRow(x, 3, 0, 0, 0, 0, 1, 0);
        Due.said(x, "u=1", 3);
        freeRow(x, 0, 0, 4, -3, 0, 0, 0);
        UnitVectors y = new UnitVectors();
        Due.said(y, "u*v=a", 1);
        Due.said(y, "v*w=b", 2);
        Due.said(y, "w*x=c", 3);
        Due.said(y, "x*y=d", 4);
        Due.said(y, "y*z=1", 5);
        freeRow(y, 0, 1, -1, 1, -1, 1, -1);
        due("one row", y.told(2), 1);
    }

    // ---- promise 13

    private static void least() {
        UnitVectors x = new UnitVectors();
        Due.said(x, "u^2*v^3*w^4=a*b^-5*c^9", 1);
        // u is 0 (its head is 1), v from 0 to 3, w as it comes
        int[][] want = {{0, 3, -2}, {0, 1, -2}, {0, 3, 0}, {0, 0, 0}};
        for (int base = 0; base < 4; base++) {
            for (int i = 0; i < 6; i++) {
                due("least(" + i + ", " + base + ")", x.least(i, base), SHIFT + (i < 3 ? want[base][i] : 0));
            }
        }
        due("least(-1, 0)", x.least(-1, 0), UNKNOWN);
        due("least(6, 0)", x.least(6, 0), UNKNOWN);
        due("least(0, -1)", x.least(0, -1), UNKNOWN);
        due("least(0, 4)", x.least(0, 4), UNKNOWN);
        for (int wrong : WRONG) {
            due("least(wrong, 0)", x.least(wrong, 0), UNKNOWN);
            due("least(0, wrong)", x.least(0, wrong), UNKNOWN);
        }
    }

    // ---- promise 14

    private static void isTold() {
        UnitVectors x = new UnitVectors();
        Due.said(x, "u*v=a", 1);
        Due.said(x, "u/v=a", 2);
        Due.said(x, "w*x=b", 3);
        Due.said(x, "z^3=1", 4);
        int[] want = {1, 1, 0, 0, 0, 1};
        for (int i = 0; i < 6; i++) {
            due("isTold(" + i + ")", x.isTold(i), want[i]);
        }
        due("how many", x.told(3), 3);
        due("isTold(-1)", x.isTold(-1), UNKNOWN);
        due("isTold(6)", x.isTold(6), UNKNOWN);
        for (int wrong : WRONG) {
            due("isTold(" + wrong + ")", x.isTold(wrong), UNKNOWN);
        }
    }

    // ---- promise 15

    private static void follows() {
        UnitVectors x = new UnitVectors();
        due("1=1", Due.follows(x, "1=1"), 1);
        due("u=u", Due.follows(x, "u=u"), 1);
        due("u=a", Due.follows(x, "u=a"), 0);
        due("a=b", Due.follows(x, "a=b"), 0);
        Due.said(x, "u^2*v^2=a^4", 1);
        due("the root of it", Due.follows(x, "u*v=a^2"), 1);
        due("with another power", Due.follows(x, "u*v=a^3"), 0);
        due("with another base", Due.follows(x, "u*v=a^2*b"), 0);
        due("of one alone", Due.follows(x, "u=a"), 0);
        due("nothing changes", x.told(0), 1);
        due("no deed", x.told(8), 1);
        due("empty behind", x.told(4), 0);
        due("a fault", Due.follows(x, "u"), -11);
        due("its letter", x.fault(), 1);
        due("an expression is none", Due.follows(x, "u*v"), -11);
    }

    // ---- promise 16

    private static void couldBe() {
        UnitVectors x = new UnitVectors();
        due("u=a", Due.couldBe(x, "u=a"), 1);
        due("u^2=a", Due.couldBe(x, "u^2=a"), 0);
        due("u^2*v^4=a^2", Due.couldBe(x, "u^2*v^4=a^2"), 1);
        due("u^2*v^4=a^3", Due.couldBe(x, "u^2*v^4=a^3"), 0);
        due("u^2*v^4=a^2*b", Due.couldBe(x, "u^2*v^4=a^2*b"), 0);
        due("u^6*v^4=a^2", Due.couldBe(x, "u^6*v^4=a^2"), 1);
        due("a=b", Due.couldBe(x, "a=b"), 0);
        due("a=a", Due.couldBe(x, "a=a"), 1);
        Due.said(x, "u*v=a", 1);
        due("u=v", Due.couldBe(x, "u=v"), 0);
        due("u=v*a", Due.couldBe(x, "u=v*a"), 1);
        due("nothing changes", x.told(0), 1);
        due("no deed", x.told(8), 1);
        due("empty behind", x.told(4), 0);
        due("a fault", Due.couldBe(x, "u=a^9*a"), -13);
        due("its letter", x.fault(), 7);
        for (int k = 2; k <= 6; k++) {
            Due.said(x, "1=1", k);
        }
        due("with six, too", Due.couldBe(x, "u=a"), 1);
    }

    // ---- promise 17

    private static void measured() {
        UnitVectors x = new UnitVectors();
        Due.said(x, "u^2*v^3=a*b^2", 1);
        // FREE: 3 -2; for a: u is 2, v is -1; for b: u is 1, v is 0
        int[] want = {1, 3, 1, 0, 4, 0, 0, 2, 0, 0};
        for (int what = 0; what < 10; what++) {
            due("measured(" + what + ")", Due.measured(x, "u^2*v*b*c*y^2*a^-2", what), SHIFT + want[what]);
            due("empty behind", x.told(4), 0);
        }
        Due.type(x, "u");
        due("measured(10)", x.measured(10), OUTSIDE);
        due("measured(-1)", x.measured(-1), OUTSIDE);
        for (int wrong : WRONG) {
            due("measured(" + wrong + ")", x.measured(wrong), OUTSIDE);
        }
        due("THE TEXT stays", x.told(4), 1);
        due("measured(0)", x.measured(0), SHIFT + 2);
        due("a fault", Due.measured(x, "u*", 0), -11);
        due("a saying is none", Due.measured(x, "u=a", 9), -11);
        due("deep", Due.measured(x, "(((((((u", 4), -12);
        due("great", Due.measured(x, "a^9*a", 4), -13);
        due("at", x.fault(), 5);
        due("the empty text", x.measured(0), -11);
        due("no deed", x.told(8), 1);
    }

    // ---- promise 18

    private static void converted() {
        UnitVectors x = new UnitVectors();
        x.scale(0, 5, 2);
        int[][] byLaw = {{2, 3, 3, 2}, {5, 5, 5, 5}, {7, 8, 8, 8}, {10, 10, 10, 10}, {12, 13, 13, 12}};
        for (int v = 1; v <= 5; v++) {
            for (int law = 0; law < 4; law++) {
                due("of " + v + " by " + law, Due.converted(x, "a", v, law), byLaw[v - 1][law]);
            }
        }
        int[][] back = {{0, 1, 0, 0}, {0, 1, 1, 1}, {1, 2, 1, 1}, {1, 2, 2, 2}, {2, 2, 2, 2}};
        for (int v = 1; v <= 5; v++) {
            for (int law = 0; law < 4; law++) {
                due("back of " + v + " by " + law, Due.converted(x, "1/a", v, law), back[v - 1][law]);
            }
        }
        due("of nothing", Due.converted(x, "a^3", 0, 1), 0);
        due("with nothing", Due.converted(x, "1", 1000000, 2), 1000000);
        due("unknowns that go away", Due.converted(x, "u*a/u", 2, 0), 5);
        for (int base = 0; base < 4; base++) {
            x.scale(base, 12, 1);
        }
        due("the greatest", Due.converted(x, "(a*b*c*d)^3", 1000000, 0), 8916100448256000000L);
        due("the greatest, nearest", Due.converted(x, "(a*b*c*d)^3", 1000000, 3), 8916100448256000000L);
        due("the least", Due.converted(x, "(a*b*c*d)^-3", 1, 1), 1);
        due("the least, cut", Due.converted(x, "(a*b*c*d)^-3", 1000000, 0), 0);
        due("there and back", Due.converted(x, "a^3*b^-3*c^3/d^3", 77, 0), 77);
        due("no deed", x.told(8), 5);
    }

    private static void convertedRefused() {
        UnitVectors x = new UnitVectors();
        Due.type(x, "a");
        due("v = -1", x.converted(-1, 0), OUTSIDE);
        due("v = 1000001", x.converted(1000001, 0), OUTSIDE);
        due("LAW -1", x.converted(0, -1), OUTSIDE);
        due("LAW 4", x.converted(0, 4), OUTSIDE);
        for (int wrong : WRONG) {
            due("LAW " + wrong, x.converted(0, wrong), OUTSIDE);
            if (wrong < 0 || wrong > 1000000) {
                due("v = " + wrong, x.converted(wrong, 0), OUTSIDE);
            }
        }
        due("THE TEXT stays", x.told(4), 1);
        due("now", x.converted(1000000, 0), 1000000);
        due("empty", x.told(4), 0);
        due("a^4", Due.converted(x, "a^4", 1, 0), NOT);
        due("empty behind NOT", x.told(4), 0);
        due("d^-4", Due.converted(x, "d^-4", 1, 0), NOT);
        due("a^4/a", Due.converted(x, "a^4/a", 1, 0), 1);
        due("u", Due.converted(x, "u", 1, 0), NOT);
        Due.said(x, "z=a", 1);
        due("z, which is told", Due.converted(x, "z", 1, 0), NOT);
        due("a fault", Due.converted(x, "a^", 1, 0), -11);
        due("its letter", x.fault(), 2);
        due("empty behind a fault", x.told(4), 0);
        due("OUTSIDE is ahead of a fault", x.converted(-1, 9), OUTSIDE);
        due("great", Due.converted(x, "(a^5)^2", 1, 0), -13);
        due("deep", Due.converted(x, "(((((((a", 1, 0), -12);
    }

    // ---- promise 19

    private static void seed() {
        UnitVectors x = new UnitVectors();
        due("seed(2147483647)", x.seed(2147483647), 0);
        due("seed(-1)", x.seed(-1), OUTSIDE);
        due("seed(-2147483648)", x.seed(-2147483648), OUTSIDE);
        due("seed(0)", x.seed(0), 2147483647);
        due("seed(9)", x.seed(9), 0);
        due("no deed", x.told(8), 0);
        x.seed(2147483647);
        x.drift(1);
        due("from the greatest", x.seed(1), afterDraw(afterDraw(afterDraw(afterDraw(2147483647L)))));
    }

    // ---- promise 20

    private static void keep() {
        UnitVectors x = new UnitVectors();
        Due.said(x, "u=a", 1);
        due("keep(-1)", x.keep(-1), UNKNOWN);
        due("keep(2)", x.keep(2), UNKNOWN);
        for (int wrong : WRONG) {
            due("keep(" + wrong + ")", x.keep(wrong), UNKNOWN);
        }
        due("still to be undone", x.told(8), 1);
        due("keep(0)", x.keep(0), 1);
        due("nothing can be undone", x.told(8), 0);
        due("undo(1)", x.undo(1), NOT);
        due("SAYINGS stay", x.told(0), 1);
        due("the other was not kept", x.goBack(1), NOT);
        Due.said(x, "v=b", 2);
        due("keep(0) again", x.keep(0), 1);
        due("back(0)", x.back(0), 1);
        due("goBack(0)", x.goBack(0), 1);
        due("the later one was kept", x.told(0), 2);
    }

    // ---- promise 21

    private static void goBack() {
        UnitVectors x = new UnitVectors();
        Due.said(x, "u=a", 1);
        x.scale(1, 4, 1);
        x.seed(77);
        x.keep(1);
        due("goBack(0)", x.goBack(0), NOT);
        due("goBack(-1)", x.goBack(-1), UNKNOWN);
        due("goBack(2)", x.goBack(2), UNKNOWN);
        for (int wrong : WRONG) {
            due("goBack(" + wrong + ")", x.goBack(wrong), UNKNOWN);
        }
        x.scale(1, 5, 1);
        x.back(0);
        x.drift(3);
        due("goBack(0) is no deed", x.goBack(0), NOT);
        due("to be undone", x.told(8), 5);
        due("goBack(1)", x.goBack(1), 1);
        due("nothing can be undone", x.told(8), 0);
        due("SAYINGS", x.told(0), 1);
        due("u=a", x.saying(0, 0), 101);
        due("solved", x.least(0, 0), SHIFT + 1);
        due("rank", x.told(1), 1);
        due("SCALES", Due.converted(x, "b", 1, 0), 4);
        due("THE SEED", x.seed(3), 77);
        x.back(0);
        due("goBack(1) again", x.goBack(1), 1);
        due("the IMAGE is as it was", x.told(0), 1);
        due("its SEED, too", x.seed(0), 77);
    }

    private static void textStaysAtDeeds() {
        UnitVectors x = new UnitVectors();
        Due.said(x, "u=)", -11);
        Due.type(x, "v=b");
        x.keep(0);
        x.scale(0, 2, 1);
        x.drift(2);
        x.undo(1);
        x.goBack(0);
        x.seed(4);
        due("THE TEXT stays", x.told(4), 3);
        due("the FAULT stays", x.fault(), 2);
        due("said then", x.say(), 1);
        due("v is b", x.least(1, 1), SHIFT + 1);
    }
}
