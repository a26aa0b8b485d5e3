/** All that can be seen of an object, as a text to be compared; the object is used up by looking. */
final class Look {
    private static final int HOLDS_ALL_SCALES = 27720;

    private final UnitVectors x;
    private final StringBuilder seen = new StringBuilder();

    private Look(UnitVectors x) {
        this.x = x;
    }

    static String at(UnitVectors x) {
        Look look = new Look(x);
        look.lookAtAnswers();
        look.lookAtText();
        look.lookAtScales();
        look.seen.append("\nseed ").append(x.seed(0));
        look.lookAtPast();
        look.lookAtImages();
        return look.seen.toString();
    }

    private void lookAtAnswers() {
        seen.append("told");
        for (int what = 0; what < 9; what++) {
            seen.append(' ').append(x.told(what));
        }
        seen.append("\nfault ").append(x.fault());
        lookAtSayings();
        for (int i = 0; i < x.told(2); i++) {
            seen.append("\nfree");
            for (int j = 0; j < 6; j++) {
                seen.append(' ').append(x.free(i, j));
            }
        }
        for (int base = 0; base < 4; base++) {
            seen.append("\nleast");
            for (int unknown = 0; unknown < 6; unknown++) {
                seen.append(' ').append(x.least(unknown, base));
            }
        }
    }

    private void lookAtSayings() {
        int many = x.told(0);
        for (int k = 0; k < many; k++) {
            seen.append("\nsaying");
            for (int what = 0; what < 10; what++) {
                seen.append(' ').append(x.saying(k, what));
            }
        }
    }

    private void lookAtText() {
        seen.append("\nTHE TEXT ").append(x.couldBe()).append(" at ").append(x.fault());
    }

    private void lookAtScales() {
        seen.append("\nSCALES");
        for (int base = 0; base < 4; base++) {
            x.feed('a' + base);
            seen.append(' ').append(x.converted(HOLDS_ALL_SCALES, 0));
        }
    }

    private void lookAtPast() {
        for (int i = 0; i < 20 && x.told(8) > 0; i++) {
            seen.append("\nundone ").append(x.undo(1));
            lookAtSayings();
            lookAtScales();
        }
    }

    private void lookAtImages() {
        for (int image = 0; image < 2; image++) {
            int answer = x.goBack(image);
            seen.append("\nimage ").append(answer);
            if (answer == 1) {
                lookAtSayings();
                lookAtScales();
                seen.append("\nseed ").append(x.seed(0));
            }
        }
    }
}
