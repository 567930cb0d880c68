import java.io.IOException;
import java.nio.charset.StandardCharsets;
import java.nio.file.Files;
import java.nio.file.Path;
import java.util.List;
import java.util.regex.Pattern;

/** Rules of ../shared/LANGUAGE.md that the lines of the source can tell. */
final class LanguageTest {
    private static final String[] BANNED = {"finally", "synchronized", "assert", "package", "protected", "native",
        "volatile", "hashCode", "System.out", "Random", "Thread", "nanoTime", "::"};
    private static final List<String> IMPORTS = List.of("ArrayList", "Arrays", "Iterator", "List",
        "NoSuchElementException");
    private static final int LONGEST_METHOD = 60;

    public static void main(String[] args) throws IOException {
        List<String> lines = Files.readAllLines(Path.of("src/main/java/ChaseHall.java"), StandardCharsets.ISO_8859_1);
        for (int n = 0; n < lines.size(); n++) {
            String code = lines.get(n).replaceFirst("^\\s*(/?\\*|//).*", "");
            words(n + 1, code);
            imports(code);
            if (code.matches(" {4}( {4})?[\\w<>\\[\\] ]+ \\w+\\([^()]*\\)( throws [\\w, ]+)? \\{")) {
                Check.yes("line " + (n + 1) + " has at most seven parameters", code.split(",").length <= 7);
                length(lines, n);
            }
        }
        Check.finish("LanguageTest");
    }

    private static void words(int line, String code) {
        for (String word : BANNED) {
            Check.no("line " + line + " has " + word,
                    (" " + code + " ").matches(".*\\W" + Pattern.quote(word) + "\\W.*"));
        }
        Check.no("line " + line + " has a lambda", code.contains("->"));
    }

    private static void imports(String code) {
        if (code.startsWith("import ")) {
            Check.yes(code, IMPORTS.contains(code.replaceFirst("import java\\.util\\.(\\w+);", "$1")));
        }
    }

    private static void length(List<String> lines, int first) {
        String open = lines.get(first);
        String close = open.substring(0, open.length() - open.trim().length()) + "}";
        int last = first;
        while (last < lines.size() && !lines.get(last).equals(close)) {
            last++;
        }
        Check.yes(open.trim() + " is short", last - first <= LONGEST_METHOD);
    }
}
