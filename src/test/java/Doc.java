import java.io.IOException;
import java.nio.file.Files;
import java.nio.file.Paths;
import java.util.LinkedHashMap;
import java.util.Map;

/**
 * The document's sentences. A test quotes the sentence that it holds, the answers that are due by it come behind;
 * a quote that the document does not have, and a sentence that no test quotes, count as wrong answers.
 */
final class Doc {
    private static final String FILE = "../shared/DOC.md";

    private final Check check;
    private final Map<String, String> parts = new LinkedHashMap<>();
    private final Map<String, boolean[]> quoted = new LinkedHashMap<>();
    private String part = "";
    private String sentence = "";

    Doc(Check check) throws IOException {
        this.check = check;
        String heading = "";
        for (String line : Files.readAllLines(Paths.get(FILE))) {
            if (line.startsWith("## ")) {
                heading = line.substring(3).replaceAll(":.*", "");
            } else if (isTold(line)) {
                parts.merge(heading, bare(line), (ahead, more) -> ahead + " " + more);
            }
        }
        for (Map.Entry<String, String> each : parts.entrySet()) {
            parts.put(each.getKey(), plain(each.getValue()));
            quoted.put(each.getKey(), new boolean[parts.get(each.getKey()).length()]);
        }
    }

    private static boolean isTold(String line) {
        return !line.isBlank() && !line.startsWith("```") && !line.startsWith("Ahead of the calls");
    }

    /** Without the mark of a chapter, or a promise's signature. */
    private static String bare(String line) {
        return line.replaceAll("^=+ \\d ", "").replaceAll("^`[^`]*`: ", "");
    }

    private static String plain(String text) {
        return text.trim().replaceAll("\\s+", " ");
    }

    void terms() {
        part = "Terms";
    }

    void whatItIs() {
        part = "What it is";
    }

    void promise(int number) {
        part = "Promise " + number;
    }

    /** What comes behind holds this sentence of the part that was named last. */
    void says(String words) {
        sentence = plain(words);
        check.due(part + " says: " + sentence, mark(sentence) ? 1 : 0, 1);
    }

    /** A sentence by which no call's answer can be told right or wrong. */
    void cannotBeSeen(String words, String why) {
        check.due(part + " says: " + words + " (" + why + ")", mark(plain(words)) ? 1 : 0, 1);
    }

    private boolean mark(String words) {
        String text = parts.getOrDefault(part, "");
        int at = text.indexOf(words);
        for (int k = at; at >= 0 && k < at + words.length(); k++) {
            quoted.get(part)[k] = true;
        }
        return at >= 0;
    }

    void due(String call, long got, long want) {
        check.due(part + ": " + sentence + " -- " + call, got, want);
    }

    void same(String call, String got, String want) {
        boolean alike = got.equals(want);
        check.due(part + ": " + sentence + " -- " + call + (alike ? "" : ": " + got + " and not " + want), alike ? 1 : 0, 1);
    }

    /** No sentence of the Terms, or of a promise, is left. */
    void allIsQuoted() {
        check.due("parts", parts.containsKey("Terms") && parts.containsKey("Promise 36") ? 1 : 0, 1);
        for (Map.Entry<String, String> each : parts.entrySet()) {
            if (each.getKey().equals("Terms") || each.getKey().startsWith("Promise ")) {
                String left = left(each.getValue(), quoted.get(each.getKey()));
                check.due(each.getKey() + ": no test quotes: " + left, left.isEmpty() ? 0 : 1, 0);
            }
        }
    }

    private static String left(String text, boolean[] marks) {
        StringBuilder left = new StringBuilder();
        for (int k = 0; k < text.length(); k++) {
            if (!marks[k]) {
                left.append(text.charAt(k));
            } else if (left.length() > 0 && left.charAt(left.length() - 1) != '|') {
                left.append('|');
            }
        }
        String found = left.toString();
        return found.matches("[^a-zA-Z0-9]*") ? "" : found;
    }
}
