import java.io.IOException;
import java.nio.file.Files;
import java.nio.file.Path;
import java.util.LinkedHashMap;
import java.util.Map;

/**
 * Sentences of the document, each held by a test of its own that says where the sentence stands. What is quoted
 * must stand there word by word, so that no test outlives its sentence unseen.
 */
final class Sentence {
    static final String HEAD = "What it is", KINDS = "Terms", ACTS = "Terms 1", STARTS = "Terms 2",
        EVENTS = "Terms 3", REFUSED = "Terms, refused calls";

    private static final Path DOCUMENT = Path.of("../shared/DOC.md");
    private static final Map<String, StringBuilder> SECTIONS = sections();
    private static final Map<String, boolean[]> QUOTED = new LinkedHashMap<>();
    private static boolean listOnly = false;

    private Sentence() {
    }

    /** The words of a promise, and the test that fails if they are broken. */
    static void holds(int promise, String words, Runnable test) {
        holds("Promise " + promise, words, test);
    }

    static void holds(String where, String words, Runnable test) {
        Due.about(where + ", \"" + words + "\": ");
        quote(where, words);
        if (!listOnly) {
            try {
                test.run();
            } catch (RuntimeException | StackOverflowError thrown) {
                Due.due("no call throws, but " + thrown, 1, 0);
            }
        }
        Due.about("");
    }

    /** From now on the sentences are only noted, their tests left out. */
    static void listOnly() {
        listOnly = true;
    }

    /** Every word of the Terms and of the promises stands in a sentence that has a test. */
    static void dueThatNoneIsLeft() {
        for (Map.Entry<String, StringBuilder> section : SECTIONS.entrySet()) {
            String where = section.getKey();
            if (where.startsWith("Terms") || where.startsWith("Promise")) {
                String left = left(section.getValue().toString(), QUOTED.get(where));
                Due.due(where + " has words without a test: " + left, left.isEmpty() ? 0 : 1, 0);
            }
        }
    }

    private static String left(String text, boolean[] quoted) {
        StringBuilder left = new StringBuilder();
        for (int i = 0; i < text.length(); i++) {
            boolean held = quoted != null && quoted[i];
            if (!held && Character.isLetterOrDigit(text.charAt(i))) {
                left.append(text.charAt(i));
            } else if (left.length() > 0 && left.charAt(left.length() - 1) != ' ') {
                left.append(' ');
            }
        }
        return left.toString().trim();
    }

    private static void quote(String where, String words) {
        if (SECTIONS.isEmpty()) {
            return;
        }
        StringBuilder text = SECTIONS.getOrDefault(where, new StringBuilder());
        boolean[] quoted = QUOTED.computeIfAbsent(where, w -> new boolean[text.length()]);
        int at = text.indexOf(words);
        Due.due("these words stand in " + DOCUMENT, at >= 0 ? 1 : 0, 1);
        for (int i = Math.max(at, 0); at >= 0 && i < at + words.length(); i++) {
            quoted[i] = true;
        }
    }

    /** The document by its headings, each section's lines as one line; empty, if the document is not here. */
    private static Map<String, StringBuilder> sections() {
        Map<String, StringBuilder> sections = new LinkedHashMap<>();
        if (!Files.isRegularFile(DOCUMENT)) {
            System.out.println("there is no " + DOCUMENT + ": what is quoted is not compared with it");
            return sections;
        }
        try {
            String where = "";
            for (String line : Files.readAllLines(DOCUMENT)) {
                where = line.startsWith("#") ? heading(line) : section(where, line);
                if (!line.startsWith("#") && !line.startsWith("```")) {
                    sections.computeIfAbsent(where, w -> new StringBuilder()).append(body(line)).append(' ');
                }
            }
        } catch (IOException unread) {
            Due.due(DOCUMENT + " can be read: " + unread, 0, 1);
        }
        return sections;
    }

    private static String heading(String line) {
        String words = line.replaceFirst("^#+ ", "");
        return words.startsWith("Promise") ? words.replaceFirst(":.*", "") : words;
    }

    private static String section(String where, String line) {
        if (line.startsWith("Refused")) {
            return REFUSED;
        }
        return line.startsWith("==== ") ? "Terms " + line.charAt(5) : where;
    }

    /** Without the marks of a section's begin, and without the signature ahead of a promise. */
    private static String body(String line) {
        return line.replaceFirst("^==== \\d ", "").replaceFirst("^`[^`]*`: ", "").trim();
    }
}
