import java.io.IOException;
import java.io.StringWriter;
import java.lang.reflect.Method;
import java.lang.reflect.Modifier;
import java.net.URL;
import java.net.URLClassLoader;
import java.nio.file.Files;
import java.nio.file.Path;
import java.util.ArrayList;
import java.util.List;
import java.util.Map;
import java.util.Set;
import java.util.TreeMap;
import java.util.TreeSet;
import java.util.regex.Matcher;
import java.util.regex.Pattern;
import java.util.stream.Stream;
import javax.tools.JavaCompiler;
import javax.tools.ToolProvider;

/**
 * README.md: its examples are compiled and answer as they say; each call, each of its refusals, each fault,
 * each number that told() and call() take, and each test is there. Run from the project's root, as .ci/run does.
 */
public final class ReadmeTest {
    private static final Pattern ANSWERED = Pattern.compile("((?:x\\.(\\w+)|tell)\\(.*\\)); *// (-?\\d+|[A-Z]+)\\b.*");
    private static final Pattern REFUSAL = Pattern.compile("\\b(UNKNOWN|OUTSIDE|NOT|FULL)\\b");

    private static final Checks checks = new Checks();
    private static final List<String> page = linesOf(Path.of("README.md"));
    /** "set OUTSIDE" for each call of an example, with what it answers there. */
    private static final Set<String> shown = new TreeSet<>();

    public static void main(String[] args) throws Exception {
        List<List<String>> examples = examples();
        checks.dueTrue("there are examples", examples.size() > 1);
        runAll(sourceOf(examples));
        everyCallIsToldAndShown();
        everyFaultIsShown();
        rowsOf("told(what)", 18);
        rowsOf("call(k, what)", 11);
        constants();
        everyTestIsNamed();
        checks.finish();
    }

    private static List<String> linesOf(Path file) {
        try {
            return Files.readAllLines(file);
        } catch (IOException e) {
            throw new IllegalStateException(file + " can't be read", e);
        }
    }

    // ---- the examples

    private static List<List<String>> examples() {
        List<List<String>> found = new ArrayList<>();
        List<String> example = null;
        for (String line : page) {
            if (line.equals("```java")) {
                example = new ArrayList<>();
                found.add(example);
            } else if (line.equals("```")) {
                example = null;
            } else if (example != null) {
                example.add(line);
            }
        }
        return found;
    }

    /** A class of the examples as they stand, but that each answer shown is looked at. */
    private static String sourceOf(List<List<String>> examples) {
        StringBuilder source = new StringBuilder("public final class ReadmeExamples {\n");
        for (int i = 0; i < examples.size(); i++) {
            boolean isFunction = examples.get(i).get(0).startsWith("static ");
            source.append(isFunction ? "" : "public static void example" + i + "() {\n");
            for (String line : examples.get(i)) {
                source.append(isFunction ? line : lookedAt(line)).append('\n');
            }
            source.append(isFunction ? "" : "}\n");
        }
        return source.append("static int NONE = -1, UNKNOWN = -1000000001, OUTSIDE = -1000000002, NOT = -1000000003, FULL = -1000000004;\n")
            .append("static void due(String what, int got, int want) { ReadmeTest.due(what, got, want); }\n}\n").toString();
    }

    private static String lookedAt(String line) {
        Matcher m = ANSWERED.matcher(line);
        if (!m.matches()) {
            checks.dueTrue("no answer is shown: " + line, !line.startsWith("x.") && !line.startsWith("tell("));
            return line;
        }
        shown.add((m.group(2) == null ? "functions" : m.group(2)) + " " + m.group(3));
        return "due(\"" + line.replace("\\", "\\\\").replace("\"", "\\\"") + "\", " + m.group(1) + ", " + m.group(3) + ");";
    }

    /** Called by the examples, which are compiled as the test runs. */
    public static void due(String what, int got, int want) {
        checks.due(what, got, want);
    }

    private static void runAll(String source) throws Exception {
        Path room = Files.createTempDirectory("readme");
        try {
            Path file = Files.writeString(room.resolve("ReadmeExamples.java"), source);
            compile(file, room);
            try (URLClassLoader loader = new URLClassLoader(new URL[] {room.toUri().toURL()})) {
                for (Method m : loader.loadClass("ReadmeExamples").getMethods()) {
                    if (m.getName().startsWith("example")) {
                        m.invoke(null);
                    }
                }
            }
        } finally {
            try (Stream<Path> files = Files.list(room)) {
                for (Path file : (Iterable<Path>) files::iterator) {
                    Files.delete(file);
                }
            }
            Files.delete(room);
        }
    }

    private static void compile(Path file, Path into) throws IOException {
        JavaCompiler javac = ToolProvider.getSystemJavaCompiler();
        if (javac == null) {
            throw new IllegalStateException("java has no compiler with it: run the test by the java that stands beside javac");
        }
        StringWriter complaints = new StringWriter();
        List<String> options = List.of("-d", into.toString(), "-cp", System.getProperty("java.class.path"));
        try (var files = javac.getStandardFileManager(null, null, null)) {
            boolean compiled = javac.getTask(complaints, files, null, options, null, files.getJavaFileObjects(file)).call();
            checks.dueTrue("the examples compile: " + complaints, compiled);
        }
    }

    // ---- nothing is left out

    private static void everyCallIsToldAndShown() {
        Map<String, String> promises = promises();
        for (Method m : TakenUpCalls.class.getDeclaredMethods()) {
            if (!Modifier.isPublic(m.getModifiers())) {
                continue;
            }
            String promise = promises.getOrDefault(m.getName(), "");
            String face = promise.replaceAll("(?s).*?(`[^`]*`).*", "$1");
            String row = rowBeginningWith("| " + face + " | ");
            checks.dueTrue(face + " has a row", !row.isEmpty());
            Set<String> due = refusalsIn(promise);
            Set<String> told = refusalsIn(row);
            checks.dueTrue(face + " has the refusals " + told + ", the document " + due, told.equals(due));
            for (String refusal : due) {
                checks.dueTrue("an example of " + face + " refused by " + refusal, shown.contains(m.getName() + " " + refusal));
            }
            boolean answered = shown.stream().anyMatch(s -> s.startsWith(m.getName() + " ") && refusalsIn(s).isEmpty());
            checks.dueTrue("an example of " + face + " that isn't refused", answered);
        }
    }

    /** What the document promises of each call, by the call's name. */
    private static Map<String, String> promises() {
        Map<String, String> found = new TreeMap<>();
        for (String section : Boundaries.sections().values()) {
            Matcher m = Pattern.compile("## Promise \\d+: (\\w+) `.*").matcher(section.strip());
            if (m.matches()) {
                found.put(m.group(1), section);
            }
        }
        return found;
    }

    private static Set<String> refusalsIn(String text) {
        Set<String> found = new TreeSet<>();
        Matcher m = REFUSAL.matcher(text);
        while (m.find()) {
            found.add(m.group());
        }
        return found;
    }

    private static String rowBeginningWith(String words) {
        return page.stream().filter(line -> line.startsWith(words)).findFirst().orElse("");
    }

    private static void everyFaultIsShown() {
        for (int fault = 1; fault <= 4; fault++) {
            checks.dueTrue("an example of fault " + fault, shown.contains("functions " + (-10 - fault)));
        }
    }

    /** Behind the heading, a table with a row for each number from 0 on. */
    private static void rowsOf(String heading, int rows) {
        int at = page.indexOf("### " + heading) + 4;
        checks.dueTrue("a part with the heading " + heading, at >= 4 && at + rows < page.size());
        for (int what = 0; what < rows && at + what < page.size(); what++) {
            checks.dueTrue(heading + " has a row for " + what, page.get(at + what).matches("\\| " + what + " \\| .+ \\|"));
        }
        checks.dueTrue(heading + " has no more rows", at + rows < page.size() && page.get(at + rows).isEmpty());
    }

    private static void constants() {
        checks.dueTrue("UNKNOWN", !rowBeginningWith("| UNKNOWN | " + TakenUpCalls.UNKNOWN + " |").isEmpty());
        checks.dueTrue("OUTSIDE", !rowBeginningWith("| OUTSIDE | " + TakenUpCalls.OUTSIDE + " |").isEmpty());
        checks.dueTrue("NOT", !rowBeginningWith("| NOT | " + TakenUpCalls.NOT + " |").isEmpty());
        checks.dueTrue("FULL", !rowBeginningWith("| FULL | " + TakenUpCalls.FULL + " |").isEmpty());
        checks.dueTrue("NONE", String.join(" ", page).contains("NONE, " + TakenUpCalls.NONE + ","));
    }

    private static void everyTestIsNamed() throws IOException {
        String text = String.join("\n", page);
        try (Stream<Path> files = Files.list(Path.of("src/test/java"))) {
            for (Path file : (Iterable<Path>) files::iterator) {
                String name = file.getFileName().toString().replace(".java", "");
                if (name.endsWith("Test")) {
                    checks.dueTrue(name + " is named", Pattern.compile("(?m)^\\| (\\w+, )*" + name + "\\b").matcher(text).find());
                }
            }
        }
        Matcher row = Pattern.compile("(?m)^\\| ((?:\\w+Test(?:, )?)+) \\|").matcher(text);
        while (row.find()) {
            for (String name : row.group(1).split(", ")) {
                checks.dueTrue(name + " is there", Files.exists(Path.of("src/test/java", name + ".java")));
            }
        }
    }
}
