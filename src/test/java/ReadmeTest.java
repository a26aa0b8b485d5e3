import java.io.IOException;
import java.lang.reflect.Method;
import java.nio.file.Files;
import java.nio.file.Path;
import java.util.HashSet;
import java.util.Set;
import java.util.regex.Matcher;
import java.util.regex.Pattern;

/** Makes the calls that README.md shows, one by one on one object; each must answer what stands behind it. */
public final class ReadmeTest {
    private static final Pattern NEW = Pattern.compile("UnitVectors x = new UnitVectors\\(\\);");
    private static final Pattern FEED = Pattern.compile("for \\(char c : \"([^\"]*)\"\\.toCharArray\\(\\)\\) x\\.feed\\(c\\);");
    private static final Pattern CALL = Pattern.compile("x\\.(\\w+)\\(([-0-9, ]*)\\); +// (-?\\w+)(:.*)?");

    private final Set<String> called = new HashSet<>(Set.of("feed", "wipe"));
    private UnitVectors x = new UnitVectors();

    private ReadmeTest() {
    }

    public static void main(String[] args) throws IOException, ReflectiveOperationException {
        ReadmeTest test = new ReadmeTest();
        boolean isCode = false;
        for (String line : Files.readAllLines(Path.of("README.md"))) {
            if (line.startsWith("```")) {
                isCode = line.equals("```java");
            } else if (isCode) {
                test.make(line);
            }
        }
        for (Method method : UnitVectors.class.getDeclaredMethods()) {
            boolean isPrivate = java.lang.reflect.Modifier.isPrivate(method.getModifiers());
            Due.due("README.md shows " + method.getName(), isPrivate || test.called.contains(method.getName()) ? 1 : 0, 1);
        }
        Due.end("ReadmeTest");
    }

    private void make(String line) throws ReflectiveOperationException {
        Matcher feed = FEED.matcher(line);
        Matcher call = CALL.matcher(line);
        if (NEW.matcher(line).matches()) {
            x = new UnitVectors();
        } else if (feed.matches()) {
            for (char letter : feed.group(1).toCharArray()) x.feed(letter);
        } else if (call.matches()) {
            called.add(call.group(1));
            Due.due("README.md, " + line.trim() + ":", answer(call.group(1), call.group(2)), number(call.group(3)));
        } else {
            Due.due("README.md, a line that is no call: " + line, 0, 1);
        }
    }

    private long answer(String name, String arguments) throws ReflectiveOperationException {
        String[] texts = arguments.isEmpty() ? new String[0] : arguments.split(", ");
        Object[] numbers = new Object[texts.length];
        Class<?>[] types = new Class<?>[texts.length];
        for (int i = 0; i < texts.length; i++) {
            numbers[i] = Integer.valueOf(texts[i]);
            types[i] = int.class;
        }
        return ((Number) UnitVectors.class.getMethod(name, types).invoke(x, numbers)).longValue();
    }

    private static long number(String told) throws ReflectiveOperationException {
        return told.matches("-?\\d+") ? Long.parseLong(told) : UnitVectors.class.getField(told).getInt(null);
    }
}
