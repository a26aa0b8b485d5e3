import java.io.IOException;
import java.nio.file.Files;
import java.nio.file.Path;
import java.util.BitSet;
import java.util.LinkedHashMap;
import java.util.Map;

/**
 * The sentences of the document, by its parts. A test names the part and the sentence it is for, which must stand
 * there word by word; at the end every word of the parts must have been named, so that none is forgotten.
 */
final class Sentences {
    private static final Path DOCUMENT = Path.of("../shared/DOC.md");
    private static final Map<String, String> PARTS = new LinkedHashMap<>();
    private static final Map<String, BitSet> NAMED = new LinkedHashMap<>();
    private static String latest = "";
    private static int askedAtLatest = 0;

    private Sentences() {
    }

    /** The calls from here on are asked for this sentence. */
    static void of(String part, String sentence) {
        endOfLatest();
        latest = part + ", \"" + sentence + "\": ";
        name(part, sentence);
        Due.about(latest);
        askedAtLatest = Due.asked();
    }

    /** A sentence that only tells what a word means or how to read on; it has no edge that a call could show. */
    static void withoutEdge(String part, String sentence) {
        endOfLatest();
        latest = "";
        name(part, sentence);
    }

    /** Ends the tests of all parts whose names begin so. */
    static void allNamed(String... beginnings) {
        endOfLatest();
        Due.about("");
        for (String part : PARTS.keySet()) {
            for (String beginning : beginnings) {
                if (part.startsWith(beginning)) {
                    Due.due("words of " + part + " without a test, \"" + notNamed(part) + "\",", notNamed(part).length(), 0);
                }
            }
        }
    }

    private static void endOfLatest() {
        if (!latest.isEmpty()) {
            Due.due("asked for it", Due.asked() > askedAtLatest ? 1 : 0, 1);
        }
    }

    private static void name(String part, String sentence) {
        if (PARTS.isEmpty()) {
            readParts();
        }
        String text = PARTS.getOrDefault(part, "");
        int at = text.indexOf(sentence);
        Due.about("");
        Due.due("\"" + sentence + "\" stands in " + part, at >= 0 ? 1 : 0, 1);
        if (at >= 0) {
            NAMED.computeIfAbsent(part, key -> new BitSet()).set(at, at + sentence.length());
        }
    }

    private static String notNamed(String part) {
        String text = PARTS.get(part);
        BitSet named = NAMED.getOrDefault(part, new BitSet());
        StringBuilder left = new StringBuilder();
        for (int i = 0; i < text.length(); i++) {
            if (!named.get(i)) {
                left.append(text.charAt(i));
            }
        }
        String letters = left.toString().replaceAll("[^A-Za-z0-9]", "");
        return letters.isEmpty() ? "" : left.toString().trim();
    }

    private static void readParts() {
        String part = "";
        try {
            for (String line : Files.readAllLines(DOCUMENT)) {
                String next = partOf(line);
                part = next.isEmpty() ? part : next;
                String text = line.startsWith("#") || line.startsWith("```") ? "" : line;
                text = text.replaceFirst("^======== [123] ", "").replaceFirst("^`[^`]*`: ", "").trim();
                String before = PARTS.getOrDefault(part, "");
                PARTS.put(part, before.isEmpty() || text.isEmpty() ? before + text : before + " " + text);
            }
        } catch (IOException failure) {
            Due.due("reading of " + DOCUMENT, 0, 1);
        }
    }

    /** The name of the part that begins with this line; "" if it goes on with the same. */
    private static String partOf(String line) {
        if (line.startsWith("#")) {
            return line.replaceFirst("^#+ ", "").replaceFirst(": .*", "");
        }
        if (line.startsWith("======== ")) {
            return "Terms " + line.charAt(9);
        }
        return line.startsWith("Ahead of the calls") ? "Terms, the interface" : "";
    }
}
