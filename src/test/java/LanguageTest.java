import java.io.IOException;
import java.lang.reflect.Constructor;
import java.lang.reflect.Field;
import java.lang.reflect.Method;
import java.lang.reflect.Modifier;
import java.nio.file.Files;
import java.nio.file.Path;
import java.util.Arrays;
import java.util.List;
import java.util.Set;
import java.util.TreeSet;
import java.util.regex.Matcher;
import java.util.regex.Pattern;

/** The face of the document, and those rules of LANGUAGE.md that can be seen by looking at words and members. */
public final class LanguageTest {
    private static final Path SOURCE = Path.of("src/main/java/UnitVectors.java");
    private static final String[] FACE = {
        "int feed(int)", "int wipe()", "int fault()", "int told(int)", "int say()", "int back(int)",
        "int scale(int, int, int)", "int drift(int)", "int undo(int)", "int saying(int, int)",
        "long free(int, int)", "long least(int, int)", "int isTold(int)", "int follows()", "int couldBe()",
        "long measured(int)", "long converted(int, int)", "int seed(int)", "int keep(int)", "int goBack(int)"
    };
    private static final String[] FORBIDDEN = {
        "throw", "throws", "try", "catch", "finally", "synchronized", "assert", "volatile", "transient", "native",
        "package", "Exception", "Error", "Random", "Thread", "File", "System\\.(?!arraycopy)\\w+", "BigInteger",
        "HashMap", "Map", "Set", "Stream", "Object", "Double", "Float", "protected", "\\w+Exact", "hashCode", "toString",
        "MAX_VALUE", "MIN_VALUE"
    };

    private LanguageTest() {
    }

    public static void main(String[] args) throws IOException {
        face();
        members();
        words(Files.readString(SOURCE));
        lengths(Files.readAllLines(SOURCE));
        Due.end("LanguageTest");
    }

    private static void rule(String what, boolean isKept) {
        Due.due(what, isKept ? 1 : 0, 1);
    }

    private static String told(Method method) {
        StringBuilder text = new StringBuilder(method.getReturnType() + " " + method.getName() + "(");
        for (Class<?> type : method.getParameterTypes()) {
            text.append(text.toString().endsWith("(") ? "" : ", ").append(type);
        }
        return text.append(")").toString();
    }

    private static void face() {
        Set<String> found = new TreeSet<>();
        for (Method method : UnitVectors.class.getDeclaredMethods()) {
            if (!Modifier.isPrivate(method.getModifiers())) {
                found.add(told(method));
                rule(method + " is public and of the object", Modifier.isPublic(method.getModifiers())
                        && !Modifier.isStatic(method.getModifiers()));
            }
        }
        rule("the methods " + found, found.equals(new TreeSet<>(Arrays.asList(FACE))));
        rule("final", Modifier.isFinal(UnitVectors.class.getModifiers()));
        Constructor<?>[] constructors = UnitVectors.class.getDeclaredConstructors();
        rule("one constructor", constructors.length == 1 && constructors[0].getParameterCount() == 0
                && Modifier.isPublic(constructors[0].getModifiers()));
        List<String> constants = List.of("NONE", "UNKNOWN", "OUTSIDE", "NOT", "FULL");
        for (Field field : UnitVectors.class.getDeclaredFields()) {
            boolean isPrivate = Modifier.isPrivate(field.getModifiers());
            rule(field + " is private or of the face", isPrivate != constants.contains(field.getName()));
        }
    }

    private static void members() {
        Set<String> names = new TreeSet<>();
        for (String method : FACE) {
            names.add(method.substring(method.indexOf(' ') + 1, method.indexOf('(')));
        }
        rule("at most twelve classes", UnitVectors.class.getDeclaredClasses().length < 12);
        membersOf(UnitVectors.class, names);
        for (Class<?> inside : UnitVectors.class.getDeclaredClasses()) {
            rule(inside + " is static", Modifier.isStatic(inside.getModifiers()));
            membersOf(inside, names);
            for (Method method : inside.getDeclaredMethods()) {
                rule(method + " has a name of its own", !names.contains(method.getName()));
            }
        }
    }

    private static void membersOf(Class<?> owner, Set<String> names) {
        int fields = 0;
        for (Field field : owner.getDeclaredFields()) {
            if (Modifier.isStatic(field.getModifiers())) {
                rule(field + " is final", Modifier.isFinal(field.getModifiers()));
            } else {
                fields++;
            }
        }
        rule(owner + " has some twenty fields", fields <= 20);
        for (Method method : owner.getDeclaredMethods()) {
            rule(method + " is written by hand", !method.isSynthetic());
            rule(method + " has at most seven parameters", method.getParameterCount() <= 7);
            if (Modifier.isPrivate(method.getModifiers())) {
                rule(method + " does not bear a public name", !names.contains(method.getName()));
            }
        }
    }

    private static void words(String source) {
        String code = source.replaceAll("(?s)/\\*.*?\\*/", " ").replaceAll("//[^\n]*", " ").replaceAll("'.'", "' '");
        for (String word : FORBIDDEN) {
            Matcher matcher = Pattern.compile("\\b" + word + "\\b").matcher(code);
            rule("without " + word, !matcher.find());
        }
        rule("without lambdas and references", !code.contains("->") && !code.contains("::"));
        rule("without joined texts", !code.contains("\""));
        Matcher imports = Pattern.compile("import ([^;]*);").matcher(code);
        while (imports.find()) {
            rule("import of " + imports.group(1),
                    List.of("java.util.Arrays", "java.util.ArrayList", "java.util.List").contains(imports.group(1)));
        }
        rule("signs below 128 alone", source.chars().allMatch(sign -> sign < 128));
    }

    /** A method's lines go from its head, which is indented and ends in "{", to the "}" below its first sign. */
    private static void lengths(List<String> lines) {
        Pattern head = Pattern.compile("^( {4}| {8})(?!private static final class|for|if|while|switch)\\w[^=;]*\\) \\{$");
        for (int i = 0; i < lines.size(); i++) {
            Matcher matcher = head.matcher(lines.get(i));
            if (matcher.matches()) {
                int end = i;
                while (!lines.get(end).equals(matcher.group(1) + "}")) {
                    end++;
                }
                rule("line " + (i + 1) + ": a short method", end - i + 1 <= 60);
            }
        }
    }
}
