import java.math.BigInteger;
import java.util.function.ToLongFunction;

/** The edges that the document's "Terms" name: a test for each sentence, which it names. */
public final class TermsEdgesTest {
    private static final int NONE = UnitVectors.NONE;
    private static final int UNKNOWN = UnitVectors.UNKNOWN;
    private static final int OUTSIDE = UnitVectors.OUTSIDE;
    private static final int NOT = UnitVectors.NOT;
    private static final int FULL = UnitVectors.FULL;
    private static final long SHIFT = 1000000000000L;
    private static final String TERMS = "Terms", PART1 = "Terms 1", PART2 = "Terms 2", PART3 = "Terms 3";
    private static final String FACE = "Terms, the interface";
    private static final String ATOMS = "abcduvwxyz";

    private TermsEdgesTest() {
    }

    public static void main(String[] args) {
        refusals();
        texts();
        faults();
        sayingsAndScales();
        solutions();
        answersFromSolutions();
        conversions();
        draws();
        undoneAndImages();
        face();
        Sentences.allNamed("Terms");
        Due.end("TermsEdgesTest");
    }

    private static void due(String call, long got, long want) {
        Due.due(call, got, want);
    }

    // ---- ahead of the parts: numbers and refusals

    private static void refusals() {
        Sentences.withoutEdge(TERMS, "Words in capitals are told where they come first. All numbers are whole.");
        numbersFromNothingOn();
        noneIsMinusOne();
        whatThereIsNot();
        outOfBounds();
        notNow();
        full();
        firstOfSeveral();
        farBelow();
        refusedChangesNothing();
    }

    private static void numbersFromNothingOn() {
        Sentences.of(TERMS, "What has a number has it from 0 on, as it comes.");
        UnitVectors x = Due.saying("u=a", "v=b", "w=c");
        for (int k = 0; k < 3; k++) {
            for (int what = 0; what < 6; what++) {
                due("saying(" + k + ", " + what + ")", x.saying(k, what), k == what ? 101 : 100);
            }
        }
        due("saying(-1, 0)", x.saying(-1, 0), UNKNOWN);
        due("saying(3, 0)", x.saying(3, 0), UNKNOWN);
        for (int i = 0; i < 3; i++) {
            for (int j = 0; j < 6; j++) {
                due("free(" + i + ", " + j + ")", x.free(i, j), SHIFT + (i + 3 == j ? 1 : 0));
            }
        }
        due("free(3, 0)", x.free(3, 0), UNKNOWN);
    }

    private static void noneIsMinusOne() {
        Sentences.of(TERMS, "NONE is -1.");
        due("NONE", NONE, -1);
        due("fault() of a new object", new UnitVectors().fault(), -1);
    }

    private static void whatThereIsNot() {
        Sentences.of(TERMS, "UNKNOWN (an UNKNOWN, BASE, SAYING, FREE row, IMAGE that there is not)");
        UnitVectors x = Due.saying("u=a", "u^2=a^2");
        for (int none : new int[] {-2147483648, -1, 6, 2147483647}) {
            due("isTold(" + none + ")", x.isTold(none), UNKNOWN);
            due("least(" + none + ", 0)", x.least(none, 0), UNKNOWN);
        }
        for (int none : new int[] {-2147483648, -1, 4, 2147483647}) {
            due("least(0, " + none + ")", x.least(0, none), UNKNOWN);
            due("scale(" + none + ", 1, 1)", x.scale(none, 1, 1), UNKNOWN);
        }
        for (int none : new int[] {-2147483648, -1, 2, 2147483647}) {
            due("saying(" + none + ", 0)", x.saying(none, 0), UNKNOWN);
            due("back(" + none + ")", x.back(none), UNKNOWN);
            due("keep(" + none + ")", x.keep(none), UNKNOWN);
            due("goBack(" + none + ")", x.goBack(none), UNKNOWN);
        }
        for (int none : new int[] {-2147483648, -1, 5, 2147483647}) {
            due("free(" + none + ", 0)", x.free(none, 0), UNKNOWN);
        }
        due("isTold(5)", x.isTold(5), 0);
        due("least(5, 3)", x.least(5, 3), SHIFT);
        due("scale(3, 1, 1)", x.scale(3, 1, 1), 0);
        due("saying(1, 0)", x.saying(1, 0), 102);
        due("free(4, 5)", x.free(4, 5), SHIFT + 1);
        due("keep(1)", x.keep(1), 1);
        due("goBack(1)", x.goBack(1), 1);
        due("back(1)", x.back(1), 1);
    }

    private static void outOfBounds() {
        Sentences.of(TERMS, "OUTSIDE (another number out of its bounds)");
        UnitVectors x = Due.saying("u=a");
        for (int out : new int[] {-2147483648, -1, 256, 2147483647}) {
            due("feed(" + out + ")", x.feed(out), OUTSIDE);
        }
        for (int out : new int[] {-2147483648, -1, 9, 2147483647}) {
            due("told(" + out + ")", x.told(out), OUTSIDE);
        }
        for (int out : new int[] {-2147483648, -1, 0, 21, 2147483647}) {
            due("drift(" + out + ")", x.drift(out), OUTSIDE);
            due("undo(" + out + ")", x.undo(out), OUTSIDE);
        }
        for (int out : new int[] {-2147483648, -1, 0, 13, 2147483647}) {
            due("scale(0, " + out + ", 1)", x.scale(0, out, 1), OUTSIDE);
            due("scale(0, 1, " + out + ")", x.scale(0, 1, out), OUTSIDE);
        }
        for (int out : new int[] {-2147483648, -1, 11, 2147483647}) {
            due("saying(0, " + out + ")", x.saying(0, out), OUTSIDE);
        }
        for (int out : new int[] {-2147483648, -1, 6, 2147483647}) {
            due("free(0, " + out + ")", x.free(0, out), OUTSIDE);
        }
        for (int out : new int[] {-2147483648, -1, 10, 2147483647}) {
            due("measured(" + out + ")", x.measured(out), OUTSIDE);
        }
        for (int out : new int[] {-2147483648, -1, 1000001, 2147483647}) {
            due("converted(" + out + ", 0)", x.converted(out, 0), OUTSIDE);
        }
        for (int out : new int[] {-2147483648, -1, 4, 2147483647}) {
            due("converted(0, " + out + ")", x.converted(0, out), OUTSIDE);
        }
        for (int out : new int[] {-2147483648, -1}) {
            due("seed(" + out + ")", x.seed(out), OUTSIDE);
        }
    }

    private static void notNow() {
        Sentences.of(TERMS, "NOT (not now, as told)");
        UnitVectors x = new UnitVectors();
        due("undo(1) of nothing", x.undo(1), NOT);
        due("goBack(0) of none kept", x.goBack(0), NOT);
        due("say() of 1=a", Due.say(x, "1=a"), NOT);
        due("converted() of u", Due.converted(x, "u", 0, 0), NOT);
        x.scale(0, 1, 1);
        due("undo(1) then", x.undo(1), 0);
        x.keep(0);
        due("goBack(0) then", x.goBack(0), 1);
    }

    private static void full() {
        Sentences.of(TERMS, "FULL.");
        UnitVectors x = Due.saying("1=1", "1=1", "1=1", "1=1", "1=1", "1=1");
        due("a seventh", Due.say(x, "1=1"), FULL);
        Due.type(x, " ".repeat(60));
        due("a letter behind 60", x.feed(' '), FULL);
    }

    private static void firstOfSeveral() {
        Sentences.of(TERMS, "REFUSALS, of several the first in this order:");
        UnitVectors x = new UnitVectors();
        due("scale(4, 0, 13): UNKNOWN, OUTSIDE", x.scale(4, 0, 13), UNKNOWN);
        due("scale(-1, 13, 0): UNKNOWN, OUTSIDE", x.scale(-1, 13, 0), UNKNOWN);
        due("saying(0, 11): UNKNOWN, OUTSIDE", x.saying(0, 11), UNKNOWN);
        due("free(6, 6): UNKNOWN, OUTSIDE", x.free(6, 6), UNKNOWN);
        due("goBack(2): UNKNOWN, none is kept", x.goBack(2), UNKNOWN);
        due("undo(21): OUTSIDE, not so many", x.undo(21), OUTSIDE);
        due("undo(0): OUTSIDE, not so many", x.undo(0), OUTSIDE);
        Due.type(x, "u");
        due("converted(1000001, 0) of u: OUTSIDE, NOT", x.converted(1000001, 0), OUTSIDE);
        due("converted(0, 4) of u: OUTSIDE, NOT", x.converted(0, 4), OUTSIDE);
        Due.type(x, " ".repeat(60));
        due("feed(256) behind 60: OUTSIDE, FULL", x.feed(256), OUTSIDE);
        due("feed(-1) behind 60: OUTSIDE, FULL", x.feed(-1), OUTSIDE);
    }

    private static void farBelow() {
        Sentences.of(TERMS, "They are far below all that is counted: -1000000001 and on.");
        due("UNKNOWN", UNKNOWN, -1000000001);
        due("OUTSIDE", OUTSIDE, -1000000002);
        due("NOT", NOT, -1000000003);
        due("FULL", FULL, -1000000004);
        UnitVectors x = Due.saying("u=a^-9");
        due("the least power", x.saying(0, 6), 109);
        due("the least number", x.least(0, 0), SHIFT - 9);
    }

    /** Something of everything: SAYINGS, SCALES, THE SEED, an IMAGE, deeds to be undone, a FAULT, a TEXT. */
    private static UnitVectors lived(String text) {
        UnitVectors x = Due.saying("u*v=a");
        x.scale(0, 5, 2);
        x.seed(7);
        x.keep(1);
        Due.said(x, "v^2*w^4=b^6", 2);
        x.scale(1, 3, 4);
        x.back(0);
        x.seed(99);
        Due.said(x, "u=)", -11);
        Due.type(x, text);
        return x;
    }

    private static void changesNothing(String call, String text, long refusal, ToLongFunction<UnitVectors> refused) {
        UnitVectors x = lived(text);
        due(call, refused.applyAsLong(x), refusal);
        String due = Look.at(lived(text));
        String got = Look.at(x);
        due("what is seen behind " + call + " is as ahead of it (else: " + got + "\ndue:\n" + due + ")",
                got.equals(due) ? 1 : 0, 1);
    }

    private static void refusedChangesNothing() {
        Sentences.of(TERMS, "What is refused changes nothing.");
        String saying = "v*w=b";
        changesNothing("feed(256)", saying, OUTSIDE, x -> x.feed(256));
        changesNothing("feed(-1)", saying, OUTSIDE, x -> x.feed(-1));
        changesNothing("feed('a') behind 60", saying + " ".repeat(55), FULL, x -> x.feed('a'));
        changesNothing("told(9)", saying, OUTSIDE, x -> x.told(9));
        changesNothing("back(1)", saying, UNKNOWN, x -> x.back(1));
        changesNothing("back(-1)", saying, UNKNOWN, x -> x.back(-1));
        changesNothing("scale(4, 2, 2)", saying, UNKNOWN, x -> x.scale(4, 2, 2));
        changesNothing("scale(0, 13, 2)", saying, OUTSIDE, x -> x.scale(0, 13, 2));
        changesNothing("scale(0, 2, 0)", saying, OUTSIDE, x -> x.scale(0, 2, 0));
        changesNothing("drift(0)", saying, OUTSIDE, x -> x.drift(0));
        changesNothing("drift(21)", saying, OUTSIDE, x -> x.drift(21));
        changesNothing("undo(0)", saying, OUTSIDE, x -> x.undo(0));
        changesNothing("undo(4)", saying, NOT, x -> x.undo(4));
        changesNothing("saying(1, 0)", saying, UNKNOWN, x -> x.saying(1, 0));
        changesNothing("saying(0, 11)", saying, OUTSIDE, x -> x.saying(0, 11));
        changesNothing("free(5, 0)", saying, UNKNOWN, x -> x.free(5, 0));
        changesNothing("free(0, 6)", saying, OUTSIDE, x -> x.free(0, 6));
        changesNothing("least(6, 0)", saying, UNKNOWN, x -> x.least(6, 0));
        changesNothing("isTold(6)", saying, UNKNOWN, x -> x.isTold(6));
        changesNothing("measured(10)", saying, OUTSIDE, x -> x.measured(10));
        changesNothing("converted(-1, 0)", saying, OUTSIDE, x -> x.converted(-1, 0));
        changesNothing("converted(0, 4)", saying, OUTSIDE, x -> x.converted(0, 4));
        changesNothing("seed(-1)", saying, OUTSIDE, x -> x.seed(-1));
        changesNothing("keep(2)", saying, UNKNOWN, x -> x.keep(2));
        changesNothing("goBack(2)", saying, UNKNOWN, x -> x.goBack(2));
        changesNothing("goBack(0)", saying, NOT, x -> x.goBack(0));
        refusedTextsChangeNothingElse();
    }

    /** A text that was read is gone, and its FAULT is told (see the interface and promise 4); nothing else changes. */
    private static void refusedTextsChangeNothingElse() {
        UnitVectors read = lived("v*w=b");
        read.couldBe();
        String due = Look.at(read);
        UnitVectors clashed = lived("v^2=b");
        due("say() of v^2=b", clashed.say(), NOT);
        due("what is seen behind a CLASH", Look.at(clashed).equals(due) ? 1 : 0, 1);
        UnitVectors unconverted = lived("u");
        due("converted(1, 0) of u", unconverted.converted(1, 0), NOT);
        due("what is seen behind converted()", Look.at(unconverted).equals(due) ? 1 : 0, 1);
        UnitVectors x = Due.saying("1=1", "1=1", "1=1", "1=1", "1=1", "u=a");
        due("a seventh", Due.say(x, "v=b"), FULL);
        due("what is seen behind FULL",
                Look.at(x).equals(Look.at(Due.saying("1=1", "1=1", "1=1", "1=1", "1=1", "u=a"))) ? 1 : 0, 1);
    }

    // ---- part 1: texts

    private static void texts() {
        lettersOfBasesAndUnknowns();
        wholePowersAlone();
        sayingOfSixtyLetters();
        productsFromTheLeft();
        powersOfOneFigure();
        atoms();
        blanksAnywhere();
        expressionsAlone();
        powersOfExpressions();
    }

    /** The POWERS of a text, in the order of ATOMS: of BASES, then of UNKNOWNS. */
    private static void powers(String text, int... want) {
        for (int i = 0; i < 10; i++) {
            UnitVectors x = new UnitVectors();
            due("POWER " + ATOMS.charAt(i) + " of " + text, Due.measured(x, text, i), SHIFT + (i < want.length ? want[i] : 0));
            due("fault() of " + text, x.fault(), NONE);
        }
    }

    /** What is wrong with an EXPRESSION, asked by both calls that read one. */
    private static void faultOf(String text, int number, int place) {
        UnitVectors x = new UnitVectors();
        due("measured(0) of " + text, Due.measured(x, text, 0), -10 - number);
        due("fault() of " + text, x.fault(), place);
        due("converted(1, 0) of " + text, Due.converted(x, text, 1, 0), -10 - number);
        due("fault() of " + text, x.fault(), place);
    }

    /** What is wrong with a SAYING, asked by all calls that read one. */
    private static void faultOfSaying(String text, int number, int place) {
        UnitVectors x = new UnitVectors();
        due("say() of " + text, Due.say(x, text), -10 - number);
        due("fault() of " + text, x.fault(), place);
        due("follows() of " + text, Due.follows(x, text), -10 - number);
        due("fault() of " + text, x.fault(), place);
        due("couldBe() of " + text, Due.couldBe(x, text), -10 - number);
        due("fault() of " + text, x.fault(), place);
        due("SAYINGS behind " + text, x.told(0), 0);
    }

    private static void lettersOfBasesAndUnknowns() {
        Sentences.of(PART1, "There are four BASES, a to d (0 .. 3), and six UNKNOWNS, u to z (0 .. 5).");
        for (int i = 0; i < 10; i++) {
            int[] want = new int[10];
            want[i] = 1;
            powers(ATOMS.substring(i, i + 1), want);
        }
        for (char letter : "`et{ADUZ".toCharArray()) {
            faultOf("" + letter, 1, 0);
        }
        UnitVectors x = Due.saying("u=a", "z=d");
        due("least(0, 0)", x.least(0, 0), SHIFT + 1);
        due("least(5, 3)", x.least(5, 3), SHIFT + 1);
        due("least(6, 0)", x.least(6, 0), UNKNOWN);
        due("least(0, 4)", x.least(0, 4), UNKNOWN);
        due("six FREE rows at first", new UnitVectors().told(2), 6);
    }

    private static void wholePowersAlone() {
        Sentences.of(PART1, "A UNIT has a whole power of each BASE.");
        UnitVectors x = new UnitVectors();
        due("say() of u^2=a", Due.say(x, "u^2=a"), NOT);
        due("say() of u^2=a^9", Due.say(x, "u^2=a^9"), NOT);
        due("say() of u^9=a^8", Due.say(x, "u^9=a^8"), NOT);
        due("say() of u^2=a^2*d", Due.say(x, "u^2=a^2*d"), NOT);
        due("say() of u^9=a^9*b^-9", Due.say(x, "u^9=a^9*b^-9"), 1);
        due("of a", x.least(0, 0), SHIFT + 1);
        due("of b", x.least(0, 1), SHIFT - 1);
        due("of c", x.least(0, 2), SHIFT);
        due("say() of v^2=1", Due.say(x, "v^2=1"), 2);
        due("of a, nothing", x.least(1, 0), SHIFT);
    }

    private static void sayingOfSixtyLetters() {
        Sentences.of(PART1, "A SAYING is a text (60 letters at most), letter by letter: E '=' E.");
        UnitVectors x = new UnitVectors();
        Due.type(x, "u=a*" + "1*".repeat(27) + "1 ");
        due("one more", x.feed('*'), FULL);
        due("one of 60 letters", x.say(), 1);
        due("u is a", x.least(0, 0), SHIFT + 1);
        faultOfSaying("", 1, 0);
        faultOfSaying("=", 1, 0);
        faultOfSaying("u", 1, 1);
        faultOfSaying("u=", 1, 2);
        faultOfSaying("=u", 1, 0);
        faultOfSaying("u==u", 1, 2);
        faultOfSaying("u=u=u", 1, 3);
        faultOfSaying("(u=u)", 1, 2);
        faultOfSaying("u=(u", 1, 4);
        faultOfSaying("(u=u", 1, 2);
    }

    private static void productsFromTheLeft() {
        Sentences.of(PART1, "E is F, or F's with '*' or '/' between them (from the left on);");
        powers("a", 1);
        powers("a/b/c/d", 1, -1, -1, -1);
        powers("a/b*c/d*u", 1, -1, 1, -1, 1);
        powers("1/a/a/a/a/a/a/a/a/a", -9);
        powers("a/(b/(c/d))", 1, -1, 1, -1);
        faultOf("*a", 1, 0);
        faultOf("/a", 1, 0);
        faultOf("a*", 1, 2);
        faultOf("a/", 1, 2);
        faultOf("a*/b", 1, 2);
        faultOf("ab", 1, 1);
        faultOf("a(b)", 1, 1);
        faultOf("(a)b", 1, 3);
        faultOf("a+b", 1, 1);
        faultOf("a-b", 1, 1);
    }

    private static void powersOfOneFigure() {
        Sentences.of(PART1, "F is A, or A '^' and a power: a figure, or '-' and a figure.");
        powers("a^0");
        powers("a^-0");
        powers("a^1*b^9*c^-1*d^-9", 1, 9, -1, -9);
        powers("(a*u)^3", 3, 0, 0, 0, 3);
        powers("1^9");
        powers("a*b^2", 1, 2);
        powers("1/a^2", -2);
        faultOf("a^", 1, 2);
        faultOf("a^-", 1, 3);
        faultOf("a^10", 1, 3);
        faultOf("a^-10", 1, 4);
        faultOf("a^--1", 1, 3);
        faultOf("a^+1", 1, 2);
        faultOf("a^b", 1, 2);
        faultOf("a^(2)", 1, 2);
        faultOf("a^2^2", 1, 3);
        faultOf("a^:", 1, 2);
        faultOf("a^/", 1, 2);
        faultOf("^2", 1, 0);
        faultOf("a2", 1, 1);
    }

    private static void atoms() {
        Sentences.of(PART1, "A is a letter a to d (that BASE), u to z (that UNKNOWN), '1' (no BASE at all), or '(' E ')'.");
        powers("1");
        powers("a*b*c*d*u*v*w*x*y*z*1", 1, 1, 1, 1, 1, 1, 1, 1, 1, 1);
        powers("((((((a))))))", 1);
        powers("(1)");
        faultOf("0", 1, 0);
        faultOf("2", 1, 0);
        faultOf("11", 1, 1);
        faultOf("()", 1, 1);
        faultOf(")", 1, 0);
        faultOf("a)", 1, 1);
        faultOf("(a))", 1, 3);
        faultOf("(a", 1, 2);
        faultOf("(", 1, 1);
    }

    private static void blanksAnywhere() {
        Sentences.of(PART1, "Blanks (32) may stand anywhere.");
        powers("  ( ( a ) / b  ^ - 3 )  ^  2  *  1  ", 2, 6);
        powers(" ".repeat(59) + "d", 0, 0, 0, 1);
        powers("d" + " ".repeat(59), 0, 0, 0, 1);
        UnitVectors x = new UnitVectors();
        due("say() with blanks", Due.say(x, " u  = a "), 1);
        for (int letter : new int[] {0, 9, 10, 13, 31, 33, 95, 160, 255}) {
            faultOf("a" + (char) letter, 1, 1);
            faultOf((char) letter + "a", 1, 0);
        }
        faultOf("a  b", 1, 3);
        faultOf("a ^ 1 0", 1, 6);
        faultOf(" ", 1, 1);
        faultOf(" ".repeat(60), 1, 60);
    }

    private static void expressionsAlone() {
        Sentences.of(PART1, "An EXPRESSION is a text that is an E.");
        powers("u", 0, 0, 0, 0, 1);
        faultOf("", 1, 0);
        faultOf("u=a", 1, 1);
        faultOf("u=", 1, 1);
        faultOf("=", 1, 0);
        faultOfSaying("u*a", 1, 3);
    }

    private static void powersOfExpressions() {
        Sentences.of(PART1, "POWERS of an E: of each UNKNOWN and BASE: those of products are together, of quotients less, of powers as often.");
        powers("u^5*u^4", 0, 0, 0, 0, 9);
        powers("u^-5/u^4", 0, 0, 0, 0, -9);
        powers("(z^3)^-3", 0, 0, 0, 0, 0, 0, 0, 0, 0, -9);
        powers("(z^-3)^-3", 0, 0, 0, 0, 0, 0, 0, 0, 0, 9);
        powers("(a^2*u/b)^0");
        powers("((a/u)^-1/(b*v)^-2)^2", -2, 4, 0, 0, 2, 4);
        powers("a/a*z/z");
    }

    // ---- part 1: faults

    private static void faults() {
        firstFaultAndLeast();
        cannotStandThere();
        seventhBracket();
        greatPowers();
    }

    private static void firstFaultAndLeast() {
        Sentences.of(PART1, "FAULTS, at the first letter that has one (the end at the text's length), of these the least:");
        faultOf("a)*(((((((b", 1, 1);
        faultOf("(((((((a))", 2, 6);
        faultOf("a^9*a)", 1, 5);
        faultOf("a*", 1, 2);
        faultOf("a*   ", 1, 5);
        faultOf("((((((a(", 1, 7);
        faultOf("((((((a^(", 1, 8);
        faultOf("((((((((", 2, 6);
        faultOf("a^9*a*", 1, 6);
        faultOf("(a^9*a", 1, 6);
        faultOfSaying("u^9*u=", 1, 6);
        faultOfSaying("u^9*u", 1, 5);
        faultOfSaying("a^9*a=1" + " ".repeat(53), 3, 60);
        faultOfSaying("a" + " ".repeat(59), 1, 60);
    }

    /** With each of the 256 letters behind a beginning: those that can stand there have no FAULT there, all others 1. */
    private static void allLettersBehind(String beginning, String allowed, boolean isSaying) {
        for (int letter = 0; letter < 256; letter++) {
            UnitVectors x = new UnitVectors();
            Due.type(x, beginning + (char) letter);
            long answer = isSaying ? x.couldBe() : x.measured(0);
            boolean isFaultHere = answer == -11 && x.fault() == beginning.length();
            boolean canStand = (allowed + " ").indexOf(letter) >= 0;
            due("letter " + letter + " behind " + beginning + " can stand there", isFaultHere ? 0 : 1, canStand ? 1 : 0);
        }
    }

    private static void cannotStandThere() {
        Sentences.of(PART1, "1 it cannot stand there.");
        String atoms = ATOMS + "1(";
        allLettersBehind("", atoms, false);
        allLettersBehind("a*", atoms, false);
        allLettersBehind("(", atoms, false);
        allLettersBehind("a=", atoms, true);
        allLettersBehind("a", "^*/", false);
        allLettersBehind("(a", "^*/)", false);
        allLettersBehind("(a)", "^*/", false);
        allLettersBehind("a", "^*/=", true);
        allLettersBehind("(a", "^*/)", true);
        allLettersBehind("a=a", "^*/", true);
        allLettersBehind("a^", "-0123456789", false);
        allLettersBehind("a^-", "0123456789", false);
        allLettersBehind("a^2", "*/", false);
        allLettersBehind("(a^2", "*/)", false);
        allLettersBehind("a^2", "*/=", true);
    }

    private static void seventhBracket() {
        Sentences.of(PART1, "2 a seventh '(' that is not closed yet (at it).");
        powers("((((((a^2))))))", 2);
        faultOf("(((((((a", 2, 6);
        faultOf("(((((((a)))))))", 2, 6);
        faultOf(" ( ((( ( ( ", 1, 11);
        faultOf(" ( ((( ( ( (", 2, 11);
        powers("(a)*(a)*(a)*(a)*(a)*(a)*(a)*(a)", 8);
        powers("((((((a)*(a))))))", 2);
        faultOf("((((((a)*((a", 2, 10);
        faultOf("((((((a))*((a*(a", 2, 14);
        UnitVectors x = new UnitVectors();
        due("six on either side", Due.say(x, "((((((u))))))=((((((a))))))"), 1);
        faultOfSaying("(u)=(((((((a", 2, 10);
    }

    private static void greatPowers() {
        Sentences.of(PART1, "3 behind the whole text (at its length): a POWER of the whole (of both sides of a SAYING, the left less the right) above 9 or below -9.");
        for (char letter : ATOMS.toCharArray()) {
            faultOf(letter + "^9*" + letter, 3, 5);
            faultOf(letter + "^-9/" + letter, 3, 6);
            faultOfSaying(letter + "^9=1/" + letter, 3, 7);
            faultOfSaying("1=" + letter + "^5*" + letter + "^5", 3, 9);
        }
        powers("a^9", 9);
        powers("a^-9", -9);
        powers("a^9*a/a", 9);
        powers("a^-9/a*a", -9);
        powers("(((a^9)^9)^9)^9/(((a^9)^9)^9)^9*b", 0, 1);
        powers("(a^9*a)/a", 9);
        powers("(a^9)^9/(a^9)^8", 9);
        powers("a^9/(a^9)^2", -9);
        powers("(a^9*a^9*a^9)^0");
        faultOf("((((((z^9)^9)^9)^9)^9)^9)^9", 3, 27);
        faultOf("((((((z^9)^9)^9)^9)^9)^9)^-9", 3, 28);
        faultOf("a^9*a  ", 3, 7);
        faultOf(" a^9*a", 3, 6);
        UnitVectors x = new UnitVectors();
        due("10 less 1", Due.say(x, "u^9*u=u"), 1);
        due("is 9", x.saying(0, 0), 109);
        due("-4 less 5", Due.say(x, "u^-4=u^5"), 2);
        due("is -9", x.saying(1, 0), 91);
        due("great ones on both sides", Due.couldBe(x, "(u^9)^9=(u^9)^9"), 1);
        due("great ones, 9 apart", Due.couldBe(x, "(u^9)^9=(u^9)^8"), 1);
        faultOfSaying("u^5=u^-5", 3, 8);
        faultOfSaying("u^-5=u^5", 3, 8);
    }

    // ---- part 2

    private static void sayingsAndScales() {
        saidOrClashing();
        numberedAnew();
        scalesAsFractions();
    }

    private static void saidOrClashing() {
        Sentences.of(PART2, "Said: a SAYING (6 at most), if with all said before there are still UNITS for the UNKNOWNS by which all are true; else it CLASHES.");
        UnitVectors x = Due.saying("u*v=a");
        due("1=a", Due.say(x, "1=a"), NOT);
        due("a=b", Due.say(x, "a=b"), NOT);
        due("true of a, not of b", Due.say(x, "u^2*v^2=a^2*b^2"), NOT);
        due("only halves would do", Due.say(x, "u=v"), NOT);
        due("only halves would do, otherwise", Due.say(x, "u/v=b"), NOT);
        due("u is a, v nothing", Due.say(x, "u/v=a"), 2);
        due("by thirds alone", Due.say(x, "w^3*x^6=a^2"), NOT);
        due("by thirds, whole", Due.say(x, "w^3*x^6=a^3"), 3);
        due("w and x", Due.say(x, "w*x=1"), 4);
        due("x is told: a", Due.say(x, "x=b"), NOT);
        due("what is known already", Due.say(x, "u=a"), 5);
        due("what says nothing", Due.say(x, "a=a"), 6);
        due("6 at most", Due.say(x, "a=a"), FULL);
        due("all are there", x.told(0), 6);
        due("x", x.least(3, 0), SHIFT + 1);
        due("w", x.least(2, 0), SHIFT - 1);
    }

    private static void numberedAnew() {
        Sentences.of(PART2, "A SAYING is TAKEN BACK: later ones have one number less.");
        String[] texts = {"u=a^1", "u^2=a^2", "u^3=a^3", "u^4=a^4", "u^5=a^5", "u^6=a^6"};
        for (int k = 0; k < 6; k++) {
            UnitVectors x = Due.saying(texts);
            due("back(" + k + ")", x.back(k), 5);
            for (int i = 0; i < 5; i++) {
                due("saying(" + i + ", 0) then", x.saying(i, 0), 101 + (i < k ? i : i + 1));
            }
            due("saying(5, 0) then", x.saying(5, 0), UNKNOWN);
        }
    }

    private static void scalesAsFractions() {
        Sentences.of(PART2, "SCALES: for each BASE a number above and one below (1 .. 12 each; 1 and 1 at first): so many small ones are one great one, as a fraction.");
        UnitVectors x = new UnitVectors();
        for (char base = 'a'; base <= 'd'; base++) {
            due("at first", Due.converted(x, "" + base, 27720, 0), 27720);
        }
        int[][] scales = {{12, 1}, {1, 12}, {12, 11}, {11, 12}};
        for (int base = 0; base < 4; base++) {
            due("scale() of " + base, x.scale(base, scales[base][0], scales[base][1]), base + 1);
        }
        for (int base = 0; base < 4; base++) {
            due("each by itself", Due.converted(x, "" + (char) ('a' + base), 27720, 0), 27720L * scales[base][0] / scales[base][1]);
        }
        due("above 12", x.scale(0, 13, 1), OUTSIDE);
        due("below 12", x.scale(0, 1, 13), OUTSIDE);
        due("above 0", x.scale(0, 0, 1), OUTSIDE);
        due("below 0", x.scale(0, 1, 0), OUTSIDE);
        due("12 of 12 are 1", x.scale(0, 12, 12), 3);
        due("12 of 12", Due.converted(x, "a^3", 7, 0), 7);
    }

    // ---- part 3: solutions

    private static void solutions() {
        askedChangesNothing();
        allChoices();
        basesDoNotCountForRows();
        allRowsComeFromThem();
        headsAboveNothing();
        headsToTheRight();
        aboveHeads();
        rankAndRows();
        leastSolution();
        othersFromTheLeast();
        sameInAll();
    }

    private static void askedChangesNothing() {
        Sentences.of(PART3, "ASKED, nothing changes by it.");
        UnitVectors x = lived("v*w=b");
        due("follows()", x.follows(), 0);
        due("couldBe()", Due.couldBe(x, "u=c"), 1);
        due("measured()", Due.measured(x, "u*a", 0), SHIFT + 1);
        due("converted()", Due.converted(x, "a", 2, 0), 5);
        for (int i = 0; i < 9; i++) {
            x.told(i);
            x.saying(0, i + 2);
            x.free(i, i);
            x.least(i, i);
            x.isTold(i);
        }
        x.fault();
        UnitVectors twin = lived("a");
        twin.converted(2, 0);
        due("what is seen is as ahead", Look.at(x).equals(Look.at(twin)) ? 1 : 0, 1);
    }

    private static void allChoices() {
        Sentences.of(PART3, "SOLUTIONS are all choices of a UNIT for each UNKNOWN by which all that is said is true.");
        UnitVectors x = new UnitVectors();
        for (int power = -9; power <= 9; power++) {
            due("nothing said: u=a^" + power, Due.couldBe(x, "u=a^" + power), 1);
        }
        x = Due.saying("u=a", "v=b", "w=c", "x=d", "y=1", "z=a/b");
        due("all told: no FREE row", x.told(2), 0);
        for (int power = -9; power <= 9; power++) {
            due("all told: u=a^" + power, Due.couldBe(x, "u=a^" + power), power == 1 ? 1 : 0);
        }
    }

    private static void rows(UnitVectors x, int[]... want) {
        due("FREE rows", x.told(2), want.length);
        for (int i = 0; i < want.length; i++) {
            for (int j = 0; j < 6; j++) {
                due("free(" + i + ", " + j + ")", x.free(i, j), SHIFT + want[i][j]);
            }
        }
        due("free(" + want.length + ", 0)", x.free(want.length, 0), UNKNOWN);
    }

    private static int[] row(int... numbers) {
        return numbers;
    }

    private static void basesDoNotCountForRows() {
        Sentences.of(PART3, "FREE rows: of all rows of six whole numbers by which the left sides less the right ones come to nothing, if only UNKNOWNS count,");
        int[][] want = {row(3, -2, 0, 0, 0, 0), row(0, 0, 1, 0, 0, 0), row(0, 0, 0, 1, 0, 0), row(0, 0, 0, 0, 1, 0), row(0, 0, 0, 0, 0, 1)};
        rows(Due.saying("u^2*v^3=1"), want);
        rows(Due.saying("u^2*v^3=a^9*b^-9*c/d"), want);
        rows(Due.saying("a=u^-2*a/v^3"), want);
        rows(Due.saying("1=1", "a=a"), row(1, 0, 0, 0, 0, 0), row(0, 1, 0, 0, 0, 0), row(0, 0, 1, 0, 0, 0),
                row(0, 0, 0, 1, 0, 0), row(0, 0, 0, 0, 1, 0), row(0, 0, 0, 0, 0, 1));
        rows(Due.saying("u=1", "v=1", "w=1", "x=1", "y=1", "z=1"));
    }

    private static void allRowsComeFromThem() {
        Sentences.of(PART3, "those rows from which all others come by adding and taking away, told so:");
        UnitVectors x = Due.saying("u^6*v^4=1", "w^9=x^9", "y*z^9=1");
        rows(x, row(2, -3, 0, 0, 0, 0), row(0, 0, 1, 1, 0, 0), row(0, 0, 0, 0, 9, -1));
        rows(Due.saying("u^2*v^3*w^4=1", "x=1", "y=1", "z=1"), row(1, 2, -2, 0, 0, 0), row(0, 4, -3, 0, 0, 0));
    }

    private static void headsAboveNothing() {
        Sentences.of(PART3, "the first number of a row that is not 0 (its HEAD) is above 0;");
        rows(Due.saying("u*v=1", "w*x=1", "1/y/z=1"), row(1, -1, 0, 0, 0, 0), row(0, 0, 1, -1, 0, 0), row(0, 0, 0, 0, 1, -1));
        rows(Due.saying("u^-9=v^8", "w^8=1/x^9", "z^-7=y"), row(8, -9, 0, 0, 0, 0), row(0, 0, 9, -8, 0, 0), row(0, 0, 0, 0, 7, -1));
    }

    private static void headsToTheRight() {
        Sentences.of(PART3, "HEADS stand the farther to the right the later the row;");
        rows(Due.saying("z=u", "v=1", "y=w"), row(1, 0, 0, 0, 0, 1), row(0, 0, 1, 0, 1, 0), row(0, 0, 0, 1, 0, 0));
        rows(Due.saying("u=1", "v=1", "w=1", "x=1", "y=1"), row(0, 0, 0, 0, 0, 1));
        rows(Due.saying("z=1", "y=1", "x=1", "w=1", "v=1"), row(1, 0, 0, 0, 0, 0));
    }

    private static void aboveHeads() {
        Sentences.of(PART3, "what stands above a HEAD in rows ahead is 0 or more and less than it.");
        String[] end = {"x=1", "y=1", "z=1"};
        // u + v*power + 3 w is nothing: rows 1 . . and 0 3 -power, the middle one of the first being 0, 1, 2
        rows(Due.saying("u*v*w^3=1", end[0], end[1], end[2]), row(1, 2, -1, 0, 0, 0), row(0, 3, -1, 0, 0, 0));
        rows(Due.saying("u/v*w^3=1", end[0], end[1], end[2]), row(1, 1, 0, 0, 0, 0), row(0, 3, 1, 0, 0, 0));
        rows(Due.saying("u^3*v*w^3=1", end[0], end[1], end[2]), row(1, 0, -1, 0, 0, 0), row(0, 3, -1, 0, 0, 0));
        rows(Due.saying("u*v*w=1", end[0], end[1], end[2]), row(1, 0, -1, 0, 0, 0), row(0, 1, -1, 0, 0, 0));
        rows(Due.saying("u*v^2*w^9=1", end[0], end[1], end[2]), row(1, 4, -1, 0, 0, 0), row(0, 9, -2, 0, 0, 0));
        rows(Due.saying("u/v*w^9=1", end[0], end[1], end[2]), row(1, 1, 0, 0, 0, 0), row(0, 9, 1, 0, 0, 0));
        rows(Due.saying("u*v*w^9=1", end[0], end[1], end[2]), row(1, 8, -1, 0, 0, 0), row(0, 9, -1, 0, 0, 0));
    }

    private static void rankAndRows() {
        Sentences.of(PART3, "RANK: 6 less how many there are.");
        UnitVectors x = new UnitVectors();
        due("RANK of nothing", x.told(1), 0);
        String[] texts = {"u=a", "v=b", "w=c", "x=d", "y=1", "z=u"};
        for (int k = 0; k < 6; k++) {
            Due.said(x, texts[k], k + 1);
            due("RANK", x.told(1), k + 1);
            due("FREE rows", x.told(2), 5 - k);
        }
        x = Due.saying("u=a", "u=a", "u^2=a^2", "1=1");
        due("RANK of four that say one thing", x.told(1), 1);
        due("FREE rows then", x.told(2), 5);
    }

    private static void leastSolution() {
        Sentences.of(PART3, "LEAST SOLUTION: for each BASE by itself, of all rows of powers of the UNKNOWNS in SOLUTIONS the one that has, where the HEADS of FREE rows stand, 0 or more, and less than the HEAD.");
        // 2 u + 3 v = power, u being 0, 1 or 2
        for (int power = -9; power <= 9; power++) {
            UnitVectors x = Due.saying("u^2*v^3=c^" + power);
            int u = Math.floorMod(2 * power, 3);
            due("u of c^" + power, x.least(0, 2), SHIFT + u);
            due("v of c^" + power, x.least(1, 2), SHIFT + (power - 2 * u) / 3);
            due("of a", x.least(0, 0) + x.least(1, 0), 2 * SHIFT);
        }
        UnitVectors x = Due.saying("u^2*v^3=a^9*b^-9*c*d^-1");
        int[][] want = {{0, 3}, {0, -3}, {2, -1}, {1, -1}};
        for (int base = 0; base < 4; base++) {
            due("u of " + base, x.least(0, base), SHIFT + want[base][0]);
            due("v of " + base, x.least(1, base), SHIFT + want[base][1]);
        }
        x = Due.saying("u*v=a^9", "w=a^-9");
        due("a HEAD of 1: nothing", x.least(0, 0), SHIFT);
        due("all in the other", x.least(1, 0), SHIFT + 9);
        due("without a HEAD, below 0", x.least(2, 0), SHIFT - 9);
        due("not said of", x.least(5, 0), SHIFT);
    }

    private static void othersFromTheLeast() {
        Sentences.of(PART3, "(All others come from it by FREE rows, as often as one likes.)");
        UnitVectors x = Due.saying("u^2*v^3=a");
        for (int power = -9; power <= 9; power++) {
            boolean isOne = Math.floorMod(power, 3) == 2;
            due("u=a^" + power, Due.couldBe(x, "u=a^" + power), isOne ? 1 : 0);
        }
        for (int power = -9; power <= 9; power++) {
            due("v=a^" + power, Due.couldBe(x, "v=a^" + power), Math.floorMod(power, 2) == 1 ? 1 : 0);
        }
    }

    private static void sameInAll() {
        Sentences.of(PART3, "TOLD is an UNKNOWN that is the same in all SOLUTIONS.");
        UnitVectors x = Due.saying("u*v*w=a", "u*v/w=a", "x^9=1");
        int[] want = {0, 0, 1, 1, 0, 0};
        for (int unknown = 0; unknown < 6; unknown++) {
            due("isTold(" + unknown + ")", x.isTold(unknown), want[unknown]);
            due("isTold(" + unknown + ") of nothing said", new UnitVectors().isTold(unknown), 0);
        }
        due("how many", x.told(3), 2);
        Due.said(x, "u/v=a", 4);
        due("u is TOLD then", x.isTold(0), 1);
        due("v is TOLD then", x.isTold(1), 1);
    }

    // ---- part 3: what is asked of the solutions

    private static void answersFromSolutions() {
        trueInAll();
        notClashing();
        measuredByTheLeast();
        spareOnes();
        fewestNeeded();
        leastSet();
    }

    private static void trueInAll() {
        Sentences.of(PART3, "FOLLOWS: a SAYING that is true in all SOLUTIONS.");
        UnitVectors x = new UnitVectors();
        due("nothing said: 1=1", Due.follows(x, "1=1"), 1);
        due("nothing said: z^9=z^9", Due.follows(x, "z^9=z^9"), 1);
        due("nothing said: u=u*a", Due.follows(x, "u=u*a"), 0);
        due("nothing said: u=1", Due.follows(x, "u=1"), 0);
        Due.said(x, "u^9*v^9=a^9", 1);
        due("its ninth part", Due.follows(x, "u*v=a"), 1);
        due("as often as may be", Due.follows(x, "(u*v)^-9=a^-9"), 1);
        due("true in the least one alone", Due.follows(x, "u=1"), 0);
        due("true of a, not of d", Due.follows(x, "u*v=a*d"), 0);
        due("what CLASHES", Due.follows(x, "u*v=b"), 0);
    }

    private static void notClashing() {
        Sentences.of(PART3, "COULD BE: one that does not CLASH.");
        UnitVectors x = Due.saying("u^2*v^2=a^2", "1=1", "1=1", "1=1", "1=1", "1=1");
        due("what FOLLOWS, with six said", Due.couldBe(x, "u*v=a"), 1);
        due("what does not FOLLOW", Due.couldBe(x, "u=a^9"), 1);
        due("what CLASHES", Due.couldBe(x, "u*v=1"), 0);
        due("what only halves would do", Due.couldBe(x, "u=v"), 0);
        due("what no UNKNOWN is in", Due.couldBe(x, "a=b"), 0);
        due("what says nothing", Due.couldBe(x, "b=b"), 1);
    }

    private static void measuredByTheLeast() {
        Sentences.of(PART3, "MEASURED IN: the POWERS of an EXPRESSION by the LEAST SOLUTION, and how they go up with each FREE row.");
        UnitVectors x = Due.saying("u^2*v^3=a*d^-1", "w=1", "x=1", "y=1", "z=1");
        // least: u = 2, v = -1 of a; 1, -1 of d; the FREE row is 3 -2
        String text = "u^-9*v^9*a^9/d^9";
        long[] want = {-18, 0, 0, -27, -45, 0, 0, 0, 0, 0};
        for (int what = 0; what < 10; what++) {
            due("measured(" + what + ") of " + text, Due.measured(x, text, what), SHIFT + want[what]);
        }
        due("what is told does not go up", Due.measured(x, "u^2*v^3", 4), SHIFT);
        due("of 1", Due.measured(x, "1", 0), SHIFT);
    }

    private static void spareOnes() {
        Sentences.of(PART3, "SPARE: a SAYING that FOLLOWS from all the others.");
        UnitVectors x = Due.saying("1=1");
        due("what says nothing, alone", x.saying(0, 10), 1);
        Due.said(x, "u=a", 2);
        due("u=a alone", x.saying(1, 10), 0);
        Due.said(x, "u^2=a^2", 3);
        due("u=a with its square", x.saying(1, 10), 1);
        due("the square with u=a", x.saying(2, 10), 1);
        due("how many", x.told(5), 3);
        x.back(2);
        due("without the square", x.saying(1, 10), 0);
        x = Due.saying("u*v=a", "v*w=b", "u/w=a/b");
        for (int k = 0; k < 3; k++) {
            due("each of three from the other two", x.saying(k, 10), 1);
        }
    }

    private static void fewestNeeded() {
        Sentences.of(PART3, "FEWEST: how many SAYINGS (of those said) are needed at least, so that all others FOLLOW;");
        UnitVectors x = new UnitVectors();
        due("of none", x.told(6), 0);
        x = Due.saying("1=1", "a=a", "u=u");
        due("of those that say nothing", x.told(6), 0);
        x = Due.saying("u=a", "u=a", "u^2=a^2", "u^9=a^9");
        due("of those that say one thing", x.told(6), 1);
        x = Due.saying("u*v=a", "v*w=b", "u/w=a/b");
        due("of three by two", x.told(6), 2);
        x = Due.saying("u=a", "v=a", "w=a", "x=a", "y=a", "z=a");
        due("of six needed ones", x.told(6), 6);
    }

    private static void leastSet() {
        Sentences.of(PART3, "the SET of them (bit k for k; of like ones the least).");
        UnitVectors x = new UnitVectors();
        due("of none", x.told(7), 0);
        x = Due.saying("1=1", "a=a");
        due("of those that say nothing", x.told(7), 0);
        x = Due.saying("u=a", "u=a", "u=a", "u=a", "u=a", "u=a");
        due("of six like ones", x.told(7), 1);
        x = Due.saying("1=1", "u*v=a", "v*w=b", "u/w=a/b", "z=c", "1=1");
        due("the least of three", x.told(7), 2 + 4 + 16);
        x = Due.saying("u=a", "u*v=a", "v=1", "v*w=1", "w=1", "u*v*w=a");
        due("of six, three needed", x.told(7), 1 + 2 + 8);
        x = Due.saying("u=a", "v=a", "w=a", "x=a", "y=a", "z=a");
        due("of six needed ones", x.told(7), 63);
    }

    // ---- part 3: conversions

    private static void conversions() {
        powersThatConvert();
        timesAboveByBelow();
        laws();
    }

    private static void powersThatConvert() {
        Sentences.of(PART3, "CONVERTED: a number, measured in an EXPRESSION whose POWERS of UNKNOWNS are 0, with POWERS from -3 to 3, from great ones to small ones:");
        for (int base = 0; base < 4; base++) {
            UnitVectors x = new UnitVectors();
            x.scale(base, 2, 1);
            char letter = (char) ('a' + base);
            for (int power = -9; power <= 9; power++) {
                long want = Math.abs(power) > 3 ? NOT : power >= 0 ? 1000L << power : 1000L >> -power;
                due(letter + "^" + power, Due.converted(x, letter + "^" + power, 1000, 0), want);
            }
            due("4 less 1", Due.converted(x, letter + "^4/" + letter, 1, 0), 8);
        }
        for (char unknown = 'u'; unknown <= 'z'; unknown++) {
            UnitVectors x = Due.saying(unknown + "=1");
            due("" + unknown, Due.converted(x, "" + unknown, 1, 0), NOT);
            due("1/" + unknown, Due.converted(x, "1/" + unknown, 1, 0), NOT);
            due("to the power of 0", Due.converted(x, unknown + "^0", 1, 0), 1);
            due("by itself", Due.converted(x, unknown + "/" + unknown, 1, 0), 1);
        }
    }

    private static void timesAboveByBelow() {
        Sentences.of(PART3, "times the number above of each BASE's SCALE by the one below, as often as its POWER tells (below 0: the other way round);");
        UnitVectors x = new UnitVectors();
        x.scale(0, 12, 5);
        x.scale(1, 1, 7);
        x.scale(2, 11, 1);
        due("a", Due.converted(x, "a", 125, 0), 300);
        due("a^3", Due.converted(x, "a^3", 125, 0), 1728);
        due("a^-3", Due.converted(x, "a^-3", 1728, 0), 125);
        due("a^0", Due.converted(x, "a^0", 1728, 0), 1728);
        due("b^3", Due.converted(x, "b^3", 343, 0), 1);
        due("b^-3", Due.converted(x, "1/b^3", 1, 0), 343);
        due("all together, cut at the end alone", Due.converted(x, "a*b*c/d", 35, 0), 132);
        due("one great, one small", Due.converted(x, "c/a", 12, 0), 55);
        x.scale(3, 12, 1);
        x.scale(2, 12, 1);
        x.scale(1, 1, 12);
        x.scale(0, 12, 1);
        due("the greatest that there is", Due.converted(x, "a^3/b^3*c^3*d^3", 1000000, 3), 8916100448256000000L);
        due("the least above 0", Due.converted(x, "b^3/a^3/c^3/d^3", 1, 0), 0);
        due("it raised", Due.converted(x, "b^3/a^3/c^3/d^3", 1, 1), 1);
    }

    /** Halves: v/2 by each LAW for v = 0 .. 7, then sevenths, where there is no middle. */
    private static void byLaw(int law, int[] halves, int[] sevenths) {
        UnitVectors x = new UnitVectors();
        x.scale(0, 1, 2);
        x.scale(1, 1, 7);
        for (int v = 0; v < halves.length; v++) {
            due(v + " / 2 by LAW " + law, Due.converted(x, "a", v, law), halves[v]);
        }
        for (int v = 0; v < sevenths.length; v++) {
            due(v + " / 7 by LAW " + law, Due.converted(x, "b", v, law), sevenths[v]);
        }
    }

    private static void laws() {
        Sentences.of(PART3, "made whole by LAW: 0 the whole number at or below it,");
        byLaw(0, new int[] {0, 0, 1, 1, 2, 2, 3, 3}, new int[] {0, 0, 0, 0, 0, 0, 0, 1, 1});
        Sentences.of(PART3, "1 the one at or above it,");
        byLaw(1, new int[] {0, 1, 1, 2, 2, 3, 3, 4}, new int[] {0, 1, 1, 1, 1, 1, 1, 1, 2});
        Sentences.of(PART3, "2 the nearest (of two the greater),");
        byLaw(2, new int[] {0, 1, 1, 2, 2, 3, 3, 4}, new int[] {0, 0, 0, 0, 1, 1, 1, 1, 1});
        Sentences.of(PART3, "3 the nearest (of two the even one).");
        byLaw(3, new int[] {0, 0, 1, 2, 2, 2, 3, 4}, new int[] {0, 0, 0, 0, 1, 1, 1, 1, 1});
    }

    // ---- part 3: draws

    private static void draws() {
        seedGoesOn();
        drawOfSix();
        drawnSayings();
        firstIsSecond();
        drawnButNotSaid();
    }

    private static long next(long seed) {
        BigInteger times = BigInteger.valueOf(seed).multiply(BigInteger.valueOf(1103515245)).add(BigInteger.valueOf(12345));
        return times.mod(BigInteger.TWO.pow(31)).longValueExact();
    }

    private static long afterDraws(long seed, int many) {
        long at = seed;
        for (int i = 0; i < many; i++) {
            at = next(at);
        }
        return at;
    }

    /** The least THE SEED from which these are the next four DRAWS, of 6, 6, 5 and 4. */
    private static int seedOf(int first, int second, int third, int fourth) {
        for (int seed = 0; seed < 10000000; seed++) {
            if (afterDraws(seed, 1) / 65536 % 6 == first && afterDraws(seed, 2) / 65536 % 6 == second
                    && afterDraws(seed, 3) / 65536 % 5 == third && afterDraws(seed, 4) / 65536 % 4 == fourth) {
                return seed;
            }
        }
        due("a SEED with such DRAWS", 0, 1);
        return 0;
    }

    private static void seedGoesOn() {
        Sentences.of(PART3, "BY DRAWS: THE SEED (0 at first: each DRAW it becomes it times 1103515245 and 12345, left over by 2 to the 31;");
        UnitVectors x = new UnitVectors();
        due("at first", x.seed(0), 0);
        for (int seed : new int[] {0, 1, 2, 65535, 65536, 1073741824, 2147483646, 2147483647}) {
            x.seed(seed);
            x.drift(1);
            due("four DRAWS from " + seed, x.seed(0), afterDraws(seed, 4));
        }
        x.drift(20);
        due("eighty DRAWS", x.seed(0), afterDraws(0, 80));
    }

    private static void drawOfSix() {
        Sentences.of(PART3, "the DRAW of n is it / 65536, left over by n):");
        for (int first = 0; first < 6; first++) {
            int second = first == 5 ? 0 : 5;
            int base = first % 4;
            UnitVectors x = new UnitVectors();
            x.seed(seedOf(first, second, 3, base));
            due("said", x.drift(1), 1);
            for (int what = 0; what < 6; what++) {
                due("power " + what, x.saying(0, what), what == first || what == second ? 101 : 100);
            }
            for (int what = 0; what < 4; what++) {
                due("of BASE " + what, x.saying(0, 6 + what), what == base ? 99 : 100);
            }
        }
    }

    private static void drawnSayings() {
        Sentences.of(PART3, "n times: a DRAW of 6, of 6, of 5, of 4: the UNKNOWN of the first and the UNKNOWN of the second, as often as the third less 2, are the BASE of the fourth");
        for (int third = 0; third < 5; third++) {
            UnitVectors x = new UnitVectors();
            due("a text that was read is no part of it", Due.follows(x, "u*v*w*x*y*z=a*b*c*d"), 0);
            x.seed(seedOf(5, 0, third, 3));
            due("said", x.drift(1), 1);
            int[] want = {98 + third, 100, 100, 100, 100, 101, 100, 100, 100, 99};
            for (int what = 0; what < 10; what++) {
                due("power " + what, x.saying(0, what), want[what]);
            }
        }
        UnitVectors once = new UnitVectors();
        UnitVectors often = new UnitVectors();
        for (int i = 0; i < 3; i++) {
            once.drift(1);
        }
        often.drift(3);
        due("3 times one is one of 3", Look.at(once).equals(Look.at(often)) ? 1 : 0, 1);
    }

    private static void firstIsSecond() {
        Sentences.of(PART3, "(is the first the second, it is so much the oftener):");
        // powers -1, 0, 1, 2, 3 of w: alone, only -1 and 1 can be a BASE
        for (int third = 0; third < 5; third++) {
            UnitVectors x = new UnitVectors();
            x.seed(seedOf(2, 2, third, 1));
            boolean isSaid = third == 0 || third == 2;
            due("w to the power of " + (third - 1), x.drift(1), isSaid ? 1 : 0);
            due("its power", x.saying(0, 2), isSaid ? 99 + third : UNKNOWN);
        }
    }

    private static void drawnButNotSaid() {
        Sentences.of(PART3, "that is said, if there are fewer than 6, there is an UNKNOWN in it (with a power that is not 0), and it does not CLASH.");
        int good = seedOf(0, 1, 3, 0);
        UnitVectors five = Due.saying("1=1", "1=1", "1=1", "1=1", "1=1");
        five.seed(good);
        due("a sixth", five.drift(1), 6);
        UnitVectors six = Due.saying("1=1", "1=1", "1=1", "1=1", "1=1", "1=1");
        six.seed(good);
        due("no seventh", six.drift(1), 6);
        due("nothing of it", six.told(1), 0);
        due("the DRAWS are made", six.seed(0), afterDraws(good, 4));
        UnitVectors none = new UnitVectors();
        int without = seedOf(3, 3, 1, 2);
        none.seed(without);
        due("without an UNKNOWN", none.drift(1), 0);
        due("its DRAWS are made", none.seed(0), afterDraws(without, 4));
        UnitVectors clashing = Due.saying("u*v=b");
        clashing.seed(good);
        due("one that CLASHES", clashing.drift(1), 1);
        due("is not said", clashing.saying(0, 7), 99);
        UnitVectors known = Due.saying("u*v=a");
        known.seed(good);
        due("one that FOLLOWS is said", known.drift(1), 2);
    }

    // ---- part 3: undone, images

    private static void undoneAndImages() {
        whatIsADeed();
        sinceTheImage();
        twentyAreKept();
        asAheadOfThem();
        imagesKeep();
    }

    private static void whatIsADeed() {
        Sentences.of(PART3, "UNDONE: the latest deeds (say(), back(), scale(), each of the times BY DRAWS)");
        UnitVectors x = new UnitVectors();
        Due.said(x, "u=a", 1);
        due("say()", x.told(8), 1);
        x.scale(0, 1, 1);
        due("scale(), to what it was", x.told(8), 2);
        x.back(0);
        due("back()", x.told(8), 3);
        x.drift(3);
        due("drift(3)", x.told(8), 6);
        Due.said(x, "1=a", NOT);
        Due.said(x, "u", -11);
        Due.couldBe(x, "u=a");
        Due.follows(x, "u=a");
        Due.measured(x, "u", 0);
        Due.converted(x, "a", 1, 0);
        x.seed(5);
        x.wipe();
        x.back(6);
        x.scale(0, 0, 0);
        x.drift(0);
        x.undo(7);
        due("all others are none", x.told(8), 6);
        x.undo(2);
        due("what is undone is gone", x.told(8), 4);
        UnitVectors six = Due.saying("1=1", "1=1", "1=1", "1=1", "1=1", "1=1");
        six.drift(2);
        due("times in which nothing is said", six.told(8), 8);
        Due.said(six, "1=1", FULL);
        due("FULL is none", six.told(8), 8);
    }

    private static void sinceTheImage() {
        Sentences.of(PART3, "since the IMAGE");
        UnitVectors x = Due.saying("u=a", "v=b");
        x.keep(0);
        due("none behind keep()", x.told(8), 0);
        due("undo(1)", x.undo(1), NOT);
        Due.said(x, "w=c", 3);
        due("one since", x.told(8), 1);
        due("undo(2)", x.undo(2), NOT);
        due("undo(1)", x.undo(1), 2);
        x.scale(0, 2, 1);
        x.goBack(0);
        due("none behind goBack()", x.told(8), 0);
        due("undo(1)", x.undo(1), NOT);
        due("what was so ahead of the IMAGE stays", x.told(0), 2);
    }

    private static void twentyAreKept() {
        Sentences.of(PART3, "(20 at most are kept)");
        UnitVectors x = new UnitVectors();
        for (int i = 1; i <= 20; i++) {
            x.scale(0, i % 12 + 1, 1);
            due("deeds", x.told(8), i);
        }
        x.scale(0, 7, 1);
        due("21 deeds", x.told(8), 20);
        due("undo(20)", x.undo(20), 0);
        due("the first is not undone", Due.converted(x, "a", 1, 0), 2);
        due("undo(1)", x.undo(1), NOT);
        x.drift(20);
        x.drift(20);
        due("20 of 40 times", x.told(8), 20);
    }

    private static void asAheadOfThem() {
        Sentences.of(PART3, "SAYINGS, SCALES are as ahead of them; THE SEED stays.");
        UnitVectors x = Due.saying("u=a", "v=b");
        x.scale(3, 9, 4);
        x.keep(0);
        String ahead = Look.at(afterDeedsUndone(x, 0));
        for (int deeds = 1; deeds <= 20; deeds++) {
            x = Due.saying("u=a", "v=b");
            x.scale(3, 9, 4);
            x.keep(0);
            due(deeds + " deeds undone", Look.at(afterDeedsUndone(x, deeds)).equals(ahead) ? 1 : 0, 1);
        }
        x = new UnitVectors();
        x.seed(5);
        x.drift(2);
        x.undo(2);
        due("THE SEED behind DRAWS that are undone", x.seed(77), afterDraws(5, 8));
        x.scale(0, 1, 2);
        x.seed(78);
        x.undo(1);
        due("THE SEED that was put", x.seed(0), 78);
    }

    private static UnitVectors afterDeedsUndone(UnitVectors x, int deeds) {
        for (int i = 0; i < deeds; i++) {
            switch (i % 4) {
                case 0: x.back(0); break;
                case 1: x.scale(i % 3, 12, i % 12 + 1); break;
                case 2: x.drift(1); break;
                default: Due.say(x, "1=1"); break;
            }
        }
        due("deeds", x.told(8), deeds);
        if (deeds > 0) {
            due("undo(" + deeds + ")", x.undo(deeds), 2);
        }
        x.seed(3);
        // THE TEXT and its FAULT are no part of what is compared
        Due.couldBe(x, "1=1");
        return x;
    }

    private static void imagesKeep() {
        Sentences.of(PART3, "IMAGES 0, 1 keep SAYINGS, SCALES, THE SEED.");
        UnitVectors x = Due.saying("u=a");
        x.scale(0, 12, 1);
        x.seed(11);
        x.keep(0);
        Due.said(x, "v=b", 2);
        x.scale(0, 1, 12);
        x.seed(22);
        x.keep(1);
        x.back(0);
        x.back(0);
        x.scale(0, 1, 1);
        x.seed(33);
        Due.said(x, "u=)", -11);
        Due.type(x, "u=b");
        for (int turn = 0; turn < 2; turn++) {
            due("goBack(0)", x.goBack(0), 1);
            due("SAYINGS of 0", x.told(0), 1);
            due("THE SEED of 0", x.seed(44), 11);
            due("v is not TOLD", x.isTold(1), 0);
            due("goBack(1)", x.goBack(1), 1);
            due("SAYINGS of 1", x.told(0), 2);
            due("THE SEED of 1", x.seed(55), 22);
            due("v is TOLD", x.isTold(1), 1);
        }
        due("THE TEXT is in none", x.told(4), 3);
        due("the FAULT is in none", x.fault(), 2);
        due("SCALES of 1", Due.converted(x, "a", 144, 0), 12);
        x.goBack(0);
        due("SCALES of 0", Due.converted(x, "a", 144, 0), 1728);
    }

    // ---- the interface

    private static void face() {
        Sentences.withoutEdge(FACE, "Ahead of the calls `feed`, `wipe`, `fault`, `told` the interface says: ---- texts.");
        Sentences.withoutEdge(FACE, "Ahead of the calls `say`, `back`, `scale`, `drift`, `undo` the interface says: ---- deeds");
        Sentences.withoutEdge(FACE, "Ahead of the calls `saying`, `free`, `least`, `isTold`, `follows`, `couldBe`, `measured`, `converted` the interface says: ---- asked.");
        Sentences.withoutEdge(FACE, "Ahead of the calls `seed`, `keep`, `goBack` the interface says: ---- images.");
        textIsEmptyBehind();
    }

    private static void emptyBehind(String call, UnitVectors x, String text, long want, ToLongFunction<UnitVectors> reading) {
        Due.type(x, text);
        due(call + " of " + text, reading.applyAsLong(x), want);
        due("letters behind " + call + " of " + text, x.told(4), 0);
        due("the next letter behind " + call, x.feed(' '), 1);
        due("nothing of it is left", x.couldBe(), -11);
        due("at the end of one blank", x.fault(), 1);
    }

    private static void othersLeaveTheText() {
        UnitVectors x = Due.saying("u=a");
        Due.type(x, "u=b");
        x.fault();
        x.told(7);
        x.scale(0, 2, 1);
        x.drift(2);
        x.undo(1);
        x.back(0);
        x.saying(0, 10);
        x.free(0, 0);
        x.least(0, 0);
        x.isTold(0);
        x.seed(5);
        x.keep(0);
        x.goBack(0);
        due("letters behind all other calls", x.told(4), 3);
        due("one more", x.feed(')'), 4);
        due("it is read then", x.couldBe(), -11);
        due("up to the bracket", x.fault(), 3);
    }

    private static void textIsEmptyBehind() {
        Sentences.of(FACE, "(THE TEXT is empty behind say(), follows(), couldBe(), measured(), converted(), with a FAULT, too)");
        UnitVectors x = new UnitVectors();
        emptyBehind("say()", x, "u=a", 1, UnitVectors::say);
        emptyBehind("say()", x, "u=b", NOT, UnitVectors::say);
        for (int k = 2; k <= 6; k++) {
            Due.said(x, "1=1", k);
        }
        emptyBehind("say()", x, "u=a", FULL, UnitVectors::say);
        emptyBehind("follows()", x, "u=a", 1, UnitVectors::follows);
        emptyBehind("follows()", x, "u=b", 0, UnitVectors::follows);
        emptyBehind("couldBe()", x, "u=a", 1, UnitVectors::couldBe);
        emptyBehind("couldBe()", x, "u=b", 0, UnitVectors::couldBe);
        emptyBehind("measured(0)", x, "u", SHIFT + 1, y -> y.measured(0));
        emptyBehind("measured(9)", x, "u", SHIFT, y -> y.measured(9));
        emptyBehind("converted(4, 0)", x, "a", 4, y -> y.converted(4, 0));
        emptyBehind("converted(4, 0)", x, "u", NOT, y -> y.converted(4, 0));
        othersLeaveTheText();
        String[] faulty = {"u=)", "(((((((u", "u^9*u=1/u=1", "u^9=1/u"};
        int[] numbers = {1, 2, 1, 3};
        for (int i = 0; i < faulty.length; i++) {
            UnitVectors y = new UnitVectors();
            emptyBehind("say()", y, faulty[i], -10 - numbers[i], UnitVectors::say);
            emptyBehind("follows()", y, faulty[i], -10 - numbers[i], UnitVectors::follows);
            emptyBehind("couldBe()", y, faulty[i], -10 - numbers[i], UnitVectors::couldBe);
        }
        String[] faultyE = {"u)", "(((((((u", "u^9*u"};
        for (int i = 0; i < faultyE.length; i++) {
            UnitVectors y = new UnitVectors();
            long want = -11 - i;
            emptyBehind("measured(0)", y, faultyE[i], want, z -> z.measured(0));
            emptyBehind("converted(1, 0)", y, faultyE[i], want, z -> z.converted(1, 0));
        }
    }
}
