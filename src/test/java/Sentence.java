import java.io.IOException;
import java.nio.file.Files;
import java.nio.file.Path;
import java.util.BitSet;
import java.util.Map;
import java.util.TreeMap;

/** The document's sentences: a test names the one that it holds, and what no test names is told at the end. */
final class Sentence {
    private static final Path DOCUMENT = Path.of("../shared/DOC.md");
    private static final Map<String, String> PARTS = new TreeMap<>();
    private static final Map<String, BitSet> NAMED = new TreeMap<>();

    private Sentence() {
    }

    /** Without the document the tests still hold; only their names can't be looked up. */
    static void read() throws IOException {
        if (!Files.isReadable(DOCUMENT)) {
            System.out.println("no " + DOCUMENT + ": the sentences' names are not looked up");
            return;
        }
        for (String part : Files.readString(DOCUMENT).split("\n## ")) {
            String heading = part.split("[:\n]", 2)[0].trim();
            String body = part.substring(part.indexOf('\n') + 1);
            PARTS.put(heading, plain(body.replaceAll("```(text)?", " ")).replaceFirst("^`[^`]*`: ", ""));
            NAMED.put(heading, new BitSet());
        }
    }

    /** The answers from here on hold these words of that part of the document. */
    static void is(String part, String words) {
        Due.about(part + ": " + words);
        if (PARTS.isEmpty()) {
            return;
        }
        String text = PARTS.getOrDefault(part, "");
        int at = text.indexOf(words);
        Due.dueTrue("these words stand in the document", at >= 0);
        for (; at >= 0; at = text.indexOf(words, at + 1)) {
            NAMED.get(part).set(at, at + words.length());
        }
    }

    static void allAreNamed() {
        if (PARTS.isEmpty()) {
            return;
        }
        dueNamed("Terms");
        for (int promise = 1; promise <= 17; promise++) {
            dueNamed("Promise " + promise);
        }
    }

    private static void dueNamed(String part) {
        Due.about(part);
        String text = PARTS.getOrDefault(part, "");
        Due.dueTrue("this part is in the document", !text.isEmpty());
        StringBuilder unnamed = new StringBuilder();
        for (int i = 0; i < text.length(); i++) {
            unnamed.append(NAMED.get(part).get(i) ? ' ' : text.charAt(i));
        }
        Due.dueTrue("a test names each word, also: " + plain(unnamed.toString()),
            unnamed.chars().noneMatch(Character::isLetterOrDigit));
    }

    private static String plain(String text) {
        return text.replaceAll("\\s+", " ").trim();
    }
}
