import java.io.IOException;
import java.nio.charset.StandardCharsets;
import java.nio.file.Files;
import java.nio.file.Path;
import java.util.LinkedHashMap;
import java.util.Map;

/** The sentences of ../shared/DOC.md, and which of them a test has quoted. */
final class Sentences {
    private static final Path DOCUMENT = Path.of("../shared/DOC.md");
    private static final Map<String, String> PARTS = read();
    private static final Map<String, boolean[]> QUOTED = new LinkedHashMap<>();

    private Sentences() {
    }

    /** Each part of the document by its name: "What it is", "Terms I" to "Terms IV", "Promise 1" to "Promise 25". */
    private static Map<String, String> read() {
        Map<String, String> parts = new LinkedHashMap<>();
        if (!Files.exists(DOCUMENT)) {
            return parts;
        }
        try {
            String part = "";
            for (String line : Files.readAllLines(DOCUMENT, StandardCharsets.UTF_8)) {
                String text = line;
                if (line.startsWith("## ")) {
                    part = line.substring(3).replaceFirst(":.*", "");
                    text = "";
                } else if (line.matches("==== [IV]+\\. .*")) {
                    part = "Terms " + line.replaceFirst("==== ([IV]+)\\. .*", "$1");
                    text = line.replaceFirst("==== [IV]+\\. ", "");
                } else if (line.startsWith("```")) {
                    text = "";
                } else if (part.startsWith("Promise ")) {
                    text = line.replaceFirst("^`[^`]*`: ", "");
                }
                parts.merge(part, text, (sofar, more) -> plain(sofar + " " + more));
            }
        } catch (IOException e) {
            throw new IllegalStateException(e);
        }
        return parts;
    }

    private static String plain(String text) {
        return text.trim().replaceAll("\\s+", " ");
    }

    static boolean isThere() {
        return !PARTS.isEmpty();
    }

    /** Whether a part of the document has these words (true where there is no document to look at). */
    static boolean quote(String part, String words) {
        if (!isThere()) {
            return true;
        }
        String text = PARTS.getOrDefault(part, "");
        int at = text.indexOf(plain(words));
        if (at < 0) {
            return false;
        }
        boolean[] quoted = QUOTED.computeIfAbsent(part, p -> new boolean[text.length()]);
        for (int i = 0; i < plain(words).length(); i++) {
            quoted[at + i] = true;
        }
        return true;
    }

    /** The words of the Terms and promises that no test has quoted, a line for each part. */
    static String unquoted() {
        StringBuilder all = new StringBuilder();
        for (Map.Entry<String, String> e : PARTS.entrySet()) {
            if (!e.getKey().matches("Terms [IV]+|Promise \\d+")) {
                continue;
            }
            String text = e.getValue();
            boolean[] quoted = QUOTED.getOrDefault(e.getKey(), new boolean[text.length()]);
            StringBuilder left = new StringBuilder();
            for (int i = 0; i < text.length(); i++) {
                left.append(quoted[i] ? '\n' : text.charAt(i));
            }
            String words = left.toString().replaceAll("\n+", " | ").trim();
            if (words.matches("(?s).*[A-Za-z0-9].*")) {
                all.append(e.getKey()).append(": ").append(words).append('\n');
            }
        }
        return all.toString();
    }
}
