import java.nio.charset.StandardCharsets;
import java.nio.file.Files;
import java.nio.file.Path;
import java.util.List;
import java.util.Set;
import java.util.TreeSet;
import java.util.regex.Matcher;
import java.util.regex.Pattern;

/** Rules of LANGUAGE.md that can be seen in the text of the class; run from the project's root, as .ci/run does. */
public final class LanguageTest {
    private static final Checks checks = new Checks();

    public static void main(String[] args) throws Exception {
        String source = Files.readString(Path.of("src/main/java/TakenUpCalls.java"), StandardCharsets.ISO_8859_1);
        for (int i = 0; i < source.length(); i++) {
            if (source.charAt(i) > 127) {
                checks.due("a sign above 127 at " + i, source.charAt(i), 127);
            }
        }
        String code = withoutComments(source);
        forbidden(code);
        library(code);
        names(code);
        sizes(source);
        checks.finish();
    }

    private static String withoutComments(String source) {
        return source.replaceAll("(?s)/\\*.*?\\*/", " ").replaceAll("//[^\n]*", " ");
    }

    private static void forbidden(String code) {
        for (String word : List.of("throw", "throws", "try", "catch", "finally", "synchronized", "assert", "package", "import",
            "protected", "volatile", "transient", "native", "hashCode", "toString", "Exception", "Error", "Object", "var", "System\\.out")) {
            checks.due("the word " + word, count("\\b" + word + "\\b", code), 0);
        }
        checks.due("lambdas and arrows", count("->", code), 0);
        checks.due("method references", count("::", code), 0);
        checks.due("static blocks", count("\\bstatic\\s*\\{", code), 0);
        checks.due("static fields that are not final", count("\\bstatic (?!final|class)\\w+(\\[\\])* \\w+\\s*[=;,]", code), 0);
        checks.due("classes inside that are not private static final", count("\\bclass ", code) - count("private static final class ", code), 1);
        checks.due("loops without a condition", count("for \\(;;\\)|while \\(true\\)", code), 0);
    }

    private static void library(String code) {
        Set<String> used = new TreeSet<>();
        Matcher m = Pattern.compile("\\b([A-Z]\\w*[a-z]\\w*)\\.(\\w+)\\(").matcher(code);
        while (m.find()) {
            used.add(m.group(1) + "." + m.group(2));
        }
        Set<String> free = new TreeSet<>(List.of("Math.min", "Math.max", "Math.floorMod", "System.arraycopy"));
        used.removeAll(free);
        checks.dueTrue("library functions used besides " + free + ": " + used, used.isEmpty());
    }

    private static void names(String code) {
        for (String name : List.of("feed", "functions", "fault", "told", "cell", "call", "find", "set", "aim", "bring", "drift",
            "undo", "write", "tear", "seed", "keep", "goBack")) {
            checks.due("methods of the name " + name, count("\\b(int|void|boolean|Call) " + name + "\\(", code), 1);
        }
    }

    private static void sizes(String source) {
        checks.dueTrue("at most twelve classes", count("\\bclass \\w+ \\{", withoutComments(source)) <= 12);
        checks.due("methods with more than seven parameters", count("\\((?:\\w+(?:\\[\\])* \\w+, ){7,}", source), 0);
        String[] lines = source.split("\n");
        int begun = -1;
        for (int i = 0; i < lines.length; i++) {
            if (lines[i].matches(" +(?:\\w+ )+\\w+\\(.*\\) \\{") && !lines[i].matches(" +(?:if|for|while|switch|else|return) .*")) {
                begun = i;
            } else if (begun >= 0 && lines[i].matches(" *\\}") && indent(lines[i]) == indent(lines[begun])) {
                checks.dueTrue("a method of more than sixty lines: " + lines[begun], i - begun < 60);
                begun = -1;
            }
        }
    }

    private static int indent(String line) {
        return line.length() - line.stripLeading().length();
    }

    private static int count(String pattern, String text) {
        Matcher m = Pattern.compile(pattern).matcher(text);
        int n = 0;
        while (m.find()) {
            n++;
        }
        return n;
    }
}
