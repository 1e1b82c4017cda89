import java.io.IOException;
import java.nio.file.Files;
import java.nio.file.Path;
import java.util.ArrayList;
import java.util.LinkedHashMap;
import java.util.List;
import java.util.Map;

/**
 * Sentences of the document, each with a test of its own. The words are looked up in the document, and what is left
 * of it without a test is told at the end.
 */
final class Bound {
    private static final Path DOC = Path.of("../shared/DOC.md");
    private static final Map<String, String> WHOLE = new LinkedHashMap<>();
    private static final Map<String, StringBuilder> PARTS = new LinkedHashMap<>();
    private static int tests = 0;

    static {
        if (Files.exists(DOC)) {
            readParts();
        }
    }

    private Bound() {
    }

    /** The part is "Terms", "What it is", or "Promise 7". */
    static void holds(String part, String words, Runnable test) {
        tests++;
        Check.heading(part + ": " + words);
        strike(part, words);
        test.run();
        Check.heading("");
    }

    static void promise(int number, String words, Runnable test) {
        holds("Promise " + number, words, test);
    }

    /** Every sentence of the terms and the promises was held against something. */
    static void end() {
        for (Map.Entry<String, StringBuilder> part : PARTS.entrySet()) {
            boolean asks = part.getKey().equals("Terms") || part.getKey().startsWith("Promise ");
            for (String rest : part.getValue().toString().split("#")) {
                boolean empty = rest.replaceAll("[^A-Za-z0-9]", "").isEmpty();
                Check.due("the words '" + rest.strip() + "' of " + part.getKey() + ", tested", !asks || empty, true);
            }
        }
        System.out.println(tests + " sentences of the document were held against");
    }

    // Words that are struck out are kept as # so that they can be quoted again.
    private static void strike(String part, String words) {
        if (PARTS.isEmpty()) {
            return;
        }
        StringBuilder left = PARTS.get(part);
        int start = left == null ? -1 : WHOLE.get(part).indexOf(words);
        Check.due("the place of these words in the document", start < 0, false);
        for (int i = 0; start >= 0 && i < words.length(); i++) {
            left.setCharAt(start + i, '#');
        }
    }

    private static void readParts() {
        String text;
        try {
            text = Files.readString(DOC);
        } catch (IOException e) {
            return;
        }
        List<String> sections = new ArrayList<>(List.of(("\n" + text).split("\n## ")));
        for (String section : sections) {
            int line = section.indexOf('\n');
            if (line > 0) {
                String name = section.substring(0, line).replaceAll("^(Promise \\d+):.*", "$1");
                String body = section.substring(line).replaceAll("`[a-z]+ ?[^`]*`:|`[^`]*`:|```[a-z]*|==== \\d\\.", " ");
                body = body.replaceAll("\\s+", " ");
                PARTS.put(name, new StringBuilder(body));
                WHOLE.put(name, body);
            }
        }
    }
}
