/** Counts and prints the calls whose answer is not the one that is due. */
final class Due {
    private static int wrong = 0;
    private static int asked = 0;
    private static String about = "";

    private Due() {
    }

    /** What the calls from here on are asked for; it is printed ahead of each that is wrong. */
    static void about(String what) {
        about = what;
    }

    static int asked() {
        return asked;
    }

    static void due(String call, long got, long want) {
        asked++;
        if (got != want) {
            wrong++;
            System.out.println(about + call + " answered " + got + ", due is " + want);
        }
    }

    static void type(UnitVectors x, String text) {
        x.wipe();
        for (int i = 0; i < text.length(); i++) {
            due("feed of letter " + i + " of " + text, x.feed(text.charAt(i)), i + 1);
        }
    }

    static int say(UnitVectors x, String text) {
        type(x, text);
        return x.say();
    }

    static void said(UnitVectors x, String text, int want) {
        due("say() of " + text, say(x, text), want);
    }

    /** A new object by which these are said, one by one. */
    static UnitVectors saying(String... texts) {
        UnitVectors x = new UnitVectors();
        for (int k = 0; k < texts.length; k++) {
            said(x, texts[k], k + 1);
        }
        return x;
    }

    static int follows(UnitVectors x, String text) {
        type(x, text);
        return x.follows();
    }

    static int couldBe(UnitVectors x, String text) {
        type(x, text);
        return x.couldBe();
    }

    static long measured(UnitVectors x, String text, int what) {
        type(x, text);
        return x.measured(what);
    }

    static long converted(UnitVectors x, String text, int v, int law) {
        type(x, text);
        return x.converted(v, law);
    }

    static void end(String name) {
        System.out.println(name + ": " + asked + " answers, " + wrong + " not as due");
        if (wrong != 0 || asked == 0) {
            System.exit(1);
        }
    }
}
