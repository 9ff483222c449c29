import java.io.IOException;
import java.nio.file.Files;
import java.nio.file.Path;
import java.util.LinkedHashMap;
import java.util.Map;

/**
 * Tests told by the sentence of the document that they are for. A sentence is looked up where it
 * is said to stand, and in the end no word of the terms and the promises may be without one.
 */
final class Edges {
    private static final Path DOCUMENT = Path.of("../shared/DOC.md");
    private static final Map<String, String> PARTS = new LinkedHashMap<>();
    private static final Map<String, boolean[]> SAID = new LinkedHashMap<>();
    private static int sentences = 0;

    private Edges() {
    }

    /** Reads the document: its parts are 'What it is', 'Terms 0' (ahead of the numbered ones) to 'Terms 4', 'Promise 1' to 'Promise 22'. */
    static void readDocument() throws IOException {
        if (!Files.exists(DOCUMENT)) {
            System.out.println("no " + DOCUMENT + ": the sentences are not looked up");
            return;
        }
        String part = "";
        for (String line : Files.readString(DOCUMENT).split("\n")) {
            if (line.startsWith("## ")) {
                part = partOf(line.substring(3));
            } else if (line.startsWith("==== ")) {
                part = "Terms " + line.charAt(5);
                line = line.substring(6);
            }
            boolean isOther = part.isEmpty() || line.startsWith("#") || line.startsWith("```") || line.startsWith("Ahead of the calls");
            if (!isOther) {
                String words = line.replaceAll("^`[^`]*\\)`: ", "");
                PARTS.merge(part, plain(words), (a, b) -> plain(a + " " + b));
            }
        }
        PARTS.forEach((name, text) -> SAID.put(name, new boolean[text.length()]));
    }

    private static String partOf(String heading) {
        if (heading.startsWith("Promise ")) {
            return heading.substring(0, heading.indexOf(':'));
        }
        return heading.equals("Terms") ? "Terms 0" : heading.equals("What it is") ? heading : "";
    }

    private static String plain(String words) {
        return words.replaceAll("\\s+", " ").strip();
    }

    /** A test for a sentence; its failures are told under it. */
    static void sentence(String part, String words, Runnable test) {
        say(part, words);
        Due.about(part + " '" + words + "'");
        test.run();
        Due.about("");
    }

    /** A sentence that names no case and answers nothing by itself. */
    static void untested(String part, String words) {
        say(part, words);
    }

    private static void say(String part, String words) {
        sentences++;
        if (PARTS.isEmpty()) {
            return;
        }
        String text = PARTS.getOrDefault(part, "");
        int from = text.indexOf(words);
        Due.due(part + " of the document has '" + words + "'", from >= 0 ? 1 : 0, 1);
        for (int i = from; from >= 0 && i < from + words.length(); i++) {
            SAID.get(part)[i] = true;
        }
    }

    /** Each word of the document's terms and promises stands in a sentence that has been said. */
    static void allIsSaid() {
        if (!PARTS.isEmpty()) {
            Due.due("parts of the document", PARTS.size(), 1 + 5 + 22);
        }
        for (Map.Entry<String, String> part : PARTS.entrySet()) {
            StringBuilder left = new StringBuilder();
            boolean[] said = SAID.get(part.getKey());
            for (int i = 0; i < said.length; i++) {
                left.append(said[i] ? ' ' : part.getValue().charAt(i));
            }
            String words = plain(left.toString().replaceAll("[^A-Za-z0-9 ]", ""));
            Due.due(part.getKey() + ": words without a test: '" + words + "'", words.length(), 0);
        }
        System.out.println(sentences + " sentences");
    }

    /** Holds the answer of the latest call against what is due. */
    static void is(int got, int want) {
        Due.due(Shop.latestCall(), got, want);
    }
}
