import java.io.IOException;
import java.nio.file.Files;
import java.nio.file.Path;
import java.util.LinkedHashMap;
import java.util.Map;

/** ../shared/DOC.md by its sections, and which of its words a test has named. */
final class Document {
    private static final Path PATH = Path.of("../shared/DOC.md");
    /** What is no promise: titles, fences, the calls' faces, and the lines that tell how the interface is parted. */
    private static final String NO_SENTENCE = "(?m)^## .*$|^```.*$|^`[^`]*`:|^Ahead of the calls .*$|^=+ \\d (?=[A-Z])";

    private final Map<String, StringBuilder> unnamed = new LinkedHashMap<>();
    private final Map<String, String> texts = new LinkedHashMap<>();

    Document() throws IOException {
        if (!Files.exists(PATH)) {
            return;
        }
        String section = "";
        for (String line : Files.readAllLines(PATH)) {
            section = sectionFrom(line, section);
            String told = line.replaceAll(NO_SENTENCE, "").trim();
            texts.merge(section, told, (a, b) -> b.isEmpty() ? a : (a + " " + b).trim());
        }
        texts.forEach((name, text) -> unnamed.put(name, new StringBuilder(text)));
    }

    private static String sectionFrom(String line, String before) {
        if (line.startsWith("## Promise ")) {
            return line.substring(3, line.indexOf(':'));
        }
        if (line.startsWith("## ")) {
            return line.substring(3);
        }
        return line.startsWith("========") ? "Terms " + line.charAt(9) : before;
    }

    boolean isThere() {
        return !texts.isEmpty();
    }

    /** Whether these words stand in the section; they are named then. */
    boolean name(String section, String words) {
        int at = texts.getOrDefault(section, "").indexOf(words);
        for (int i = 0; at >= 0 && i < words.length(); i++) {
            unnamed.get(section).setCharAt(at + i, '_');
        }
        return at >= 0;
    }

    /** What of the terms and the promises nobody has named, by sections. */
    Map<String, String> rest() {
        Map<String, String> rest = new LinkedHashMap<>();
        unnamed.forEach((name, text) -> {
            String left = text.toString().replaceAll("_+", " _ ").trim();
            boolean bound = name.startsWith("Terms") || name.startsWith("Promise");
            if (bound && left.matches("(?s).*[A-Za-z0-9].*")) {
                rest.put(name, left);
            }
        });
        return rest;
    }
}
