import java.io.IOException;
import java.nio.file.Files;
import java.nio.file.Path;
import java.util.ArrayList;
import java.util.Arrays;
import java.util.List;
import java.util.regex.Matcher;
import java.util.regex.Pattern;

/** Those rules of ../shared/LANGUAGE.md that can be read off the source's text; the face, as ../shared/DOC.md tells it. */
public final class LanguageTest {
    private static final Path DOCUMENT = Path.of("../shared/DOC.md");
    private static final String[] FACE = {"row", "set", "copy", "drop", "feed", "shop", "fault", "undo", "weeks", "stop",
        "strike", "cross", "dearer", "debtor", "shopHas", "ahead", "debt", "shuts", "bestStop", "whom", "stands", "dear",
        "rogue", "who", "atDoor", "pays", "drawn", "image", "restore", "kind", "as", "ask", "trace", "count", "status"};
    private static final String[] FORBIDDEN = {"\\bthrow\\b", "\\bthrows\\b", "\\btry\\b", "\\bcatch\\b",
        "\\bsynchronized\\b", "\\bassert\\b", "\\bimport\\b", "\\bpackage\\b", "\\bprotected\\b", "->", "::", "@",
        "static\\s*\\{", "Exact\\b", "\\bequals\\b", "\\bhashCode\\b", "\\btoString\\b", "\\bvar\\b", "\\bThread\\b",
        "\\bRandom\\b", "\\bSystem\\.(?!arraycopy\\b)", "\\bnull\\b", "\\bObject\\b", "\\bwhile\\s*\\(true"};
    private static final Pattern METHOD = Pattern.compile(
        "(?m)^( +)((?:public |private |static )*)(?:int|long|boolean|void) (\\w+)\\(([^)]*)\\) \\{$");

    private static int failed;

    public static void main(String[] args) throws IOException {
        String source = Files.readString(Path.of("src/main/java/SlateShop.java"));
        String code = withoutTexts(source);
        for (String word : FORBIDDEN) {
            Matcher m = Pattern.compile(word).matcher(code);
            if (m.find()) {
                wrong("line " + lineOf(code, m.start()) + " has " + m.group());
            }
        }
        if (!source.chars().allMatch(c -> c < 128)) {
            wrong("a sign above 127");
        }
        methods(code);
        face();
        faceTold(source);
        System.out.println(failed == 0 ? "the language's rules are kept" : failed + " rules are not kept");
        System.exit(failed > 0 ? 1 : 0);
    }

    private static void wrong(String what) {
        failed++;
        System.out.println(what);
    }

    private static int lineOf(String code, int place) {
        return (int) code.substring(0, place).chars().filter(c -> c == '\n').count() + 1;
    }

    /** Comments and signs become blanks, so that places and lines stay. */
    private static String withoutTexts(String source) {
        Matcher m = Pattern.compile("//[^\n]*|/\\*(?s:.*?)\\*/|'(?:\\\\.|[^'])+'|\"(?:\\\\.|[^\"])*\"").matcher(source);
        StringBuilder b = new StringBuilder();
        while (m.find()) {
            m.appendReplacement(b, m.group().replaceAll("[^\n]", " "));
        }
        return m.appendTail(b).toString();
    }

    private static void methods(String code) {
        List<String> shown = new ArrayList<>();
        Matcher m = METHOD.matcher(code);
        while (m.find()) {
            int end = code.indexOf("\n" + m.group(1) + "}", m.start());
            int lines = lineOf(code, end) - lineOf(code, m.start()) + 2;
            if (lines > 60) {
                wrong(m.group(3) + " has " + lines + " lines");
            }
            if (m.group(4).split(",").length > 7) {
                wrong(m.group(3) + " has too many parameters");
            }
            if (m.group(2).contains("public")) {
                shown.add(m.group(3));
            } else if (Arrays.asList(FACE).contains(m.group(3))) {
                wrong(m.group(3) + " bears a public name");
            }
        }
        if (!shown.equals(Arrays.asList(FACE))) {
            wrong("the face is " + shown);
        }
    }

    /** The public face as the document writes it: each line of it, and the line ahead of each part of the calls. */
    private static void faceTold(String source) throws IOException {
        if (!Files.exists(DOCUMENT)) {
            System.out.println("the document is not there: its face was not looked at");
            return;
        }
        int told = 0;
        for (String line : Files.readAllLines(DOCUMENT)) {
            Matcher call = Pattern.compile(" {4}public .*\\)(?=;)").matcher(line);
            Matcher part = Pattern.compile("Ahead of the calls `(\\w+)`.* the interface says: (---- .*)\\.").matcher(line);
            if (call.lookingAt()) {
                stands(source, call.group() + " {", ++told);
            } else if (part.matches()) {
                String first = "(?s).*// " + part.group(2) + "\n\n    public int " + part.group(1) + "\\(.*";
                if (!source.matches(first)) {
                    wrong("ahead of " + part.group(1) + " does not stand " + part.group(2));
                }
            } else if (line.startsWith("    public") || line.startsWith("public")) {
                stands(source, line, ++told);
            }
        }
        if (told != FACE.length + 3) {
            wrong("the face that the document tells has " + told + " lines");
        }
    }

    private static void stands(String source, String line, int number) {
        if (!source.contains("\n" + line + "\n")) {
            wrong("line " + number + " of the document's face does not stand so: " + line);
        }
    }

    private static void face() {
        for (var member : SlateShop.class.getDeclaredMethods()) {
            boolean open = !java.lang.reflect.Modifier.isPrivate(member.getModifiers());
            if (open != Arrays.asList(FACE).contains(member.getName())) {
                wrong("not of the face: " + member);
            }
        }
        for (var field : SlateShop.class.getDeclaredFields()) {
            boolean open = !java.lang.reflect.Modifier.isPrivate(field.getModifiers());
            if (open != List.of("NONE", "BAD", "STATE", "FULL").contains(field.getName())) {
                wrong("not of the face: " + field);
            }
        }
        for (var inner : SlateShop.class.getDeclaredClasses()) {
            int modifiers = inner.getModifiers();
            if (!java.lang.reflect.Modifier.isStatic(modifiers) || java.lang.reflect.Modifier.isPublic(modifiers)) {
                wrong("not static, or public: " + inner);
            }
        }
        if (SlateShop.class.getDeclaredClasses().length > 11) {
            wrong("too many classes");
        }
    }
}
