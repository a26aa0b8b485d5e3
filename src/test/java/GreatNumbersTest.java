import java.util.Random;

/** Sayings with the greatest powers, so that FREE rows and the LEAST SOLUTION have great numbers: as in the model. */
public final class GreatNumbersTest {
    private static final int RUNS = 5000;

    private GreatNumbersTest() {
    }

    public static void main(String[] args) {
        Random random = new Random(7);
        for (int run = 0; run < RUNS; run++) {
            compare(run, random);
        }
        Due.end("GreatNumbersTest");
    }

    private static void compare(int run, Random random) {
        UnitVectors x = new UnitVectors();
        Model model = new Model();
        int kind = random.nextInt(5);
        int many = 1 + random.nextInt(6);
        for (int k = 0; k < many; k++) {
            String text = saying(random, kind);
            for (int i = 0; i < text.length(); i++) {
                Due.due("feed", x.feed(text.charAt(i)), model.feed(text.charAt(i)));
            }
            Due.due("run " + run + ": say() of " + text, x.say(), model.say());
        }
        for (int i = 0; i < 6; i++) {
            for (int j = 0; j < 6; j++) {
                Due.due("run " + run + ": free(" + i + ", " + j + ")", x.free(i, j), model.free(i, j));
            }
            for (int base = 0; base < 4; base++) {
                Due.due("run " + run + ": least(" + i + ", " + base + ")", x.least(i, base), model.least(i, base));
            }
        }
        for (int what = 0; what < 9; what++) {
            Due.due("run " + run + ": told(" + what + ")", x.told(what), model.told(what));
        }
    }

    private static String saying(Random random, int kind) {
        StringBuilder text = new StringBuilder("1");
        for (char unknown = 'u'; unknown <= 'z'; unknown++) {
            text.append(random.nextBoolean() ? '*' : '/').append(unknown).append('^');
            text.append(power(random, kind));
        }
        text.append('=');
        if (random.nextInt(3) == 0) {
            text.append('1');
        } else {
            text.append("abcd".charAt(random.nextInt(4))).append('^').append(random.nextInt(10));
        }
        return text.toString();
    }

    private static int power(Random random, int kind) {
        switch (kind) {
            case 0: return 9 - random.nextInt(2);
            case 1: return random.nextInt(10);
            case 2: return random.nextInt(3) * 3;
            case 3: return random.nextInt(2) * (9 - random.nextInt(3));
            default: return random.nextInt(3);
        }
    }
}
