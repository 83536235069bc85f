import java.io.IOException;
import java.lang.reflect.Method;
import java.nio.file.Files;
import java.nio.file.Path;
import java.util.ArrayList;
import java.util.Comparator;
import java.util.List;
import java.util.Map;
import java.util.TreeMap;
import java.util.function.Supplier;
import java.util.function.ToIntFunction;

/** Runs the tests of a class that name their sentence of the document, and holds each sentence against the document. */
final class Boundaries {
    private static final Path DOCUMENT = Path.of("..", "shared", "DOC.md");

    private Boundaries() {
    }

    static void run(Class<?> tests, Checks checks) {
        Map<String, String> sections = sections();
        for (Method test : testsOf(tests)) {
            Sentence sentence = test.getAnnotation(Sentence.class);
            String name = test.getName() + " (" + sentence.in() + ", '" + sentence.says() + "')";
            checks.dueTrue(name + " is told so by the document", sections.getOrDefault(sentence.in(), "").contains(sentence.says()));
            checks.begin(name);
            int asked = checks.asked();
            runOne(test);
            checks.begin("");
            checks.dueTrue(name + " asks something", checks.asked() > asked);
        }
    }

    /** By name, as their order in the class isn't kept. */
    static List<Method> testsOf(Class<?> tests) {
        List<Method> found = new ArrayList<>();
        for (Method m : tests.getDeclaredMethods()) {
            if (m.isAnnotationPresent(Sentence.class)) {
                found.add(m);
            }
        }
        found.sort(Comparator.comparing(Method::getName));
        return found;
    }

    private static void runOne(Method test) {
        try {
            test.invoke(null);
        } catch (ReflectiveOperationException e) {
            throw new IllegalStateException(test.getName() + " could not be run to its end", e.getCause() == null ? e : e.getCause());
        }
    }

    /** What the document says in each of its parts, blanks and line ends as one blank. */
    static Map<String, String> sections() {
        Map<String, StringBuilder> parts = new TreeMap<>();
        StringBuilder part = new StringBuilder();
        for (String line : linesOfDocument()) {
            String heading = headingOf(line);
            if (heading != null) {
                part = parts.computeIfAbsent(heading, h -> new StringBuilder());
            }
            part.append(line).append(' ');
        }
        Map<String, String> sections = new TreeMap<>();
        parts.forEach((heading, text) -> sections.put(heading, text.toString().replaceAll("\\s+", " ")));
        return sections;
    }

    private static List<String> linesOfDocument() {
        try {
            return Files.readAllLines(DOCUMENT);
        } catch (IOException e) {
            throw new IllegalStateException("the document can't be read: " + DOCUMENT, e);
        }
    }

    private static String headingOf(String line) {
        if (line.startsWith("## ")) {
            return line.substring(3).replaceAll(":.*", "");
        }
        return line.startsWith("======== ") ? "Terms " + line.charAt(9) : null;
    }

    // ---- what is refused changes nothing

    /** The call is refused, and then no other call can tell the object from one that it was not made on. */
    static void dueRefused(Checks checks, int refusal, Supplier<TakenUpCalls> maker, ToIntFunction<TakenUpCalls> refused) {
        TakenUpCalls x = maker.get();
        TakenUpCalls twin = maker.get();
        checks.due("the refused call", refused.applyAsInt(x), refusal);
        dueAlike(checks, "behind it", x, twin);
        int deeds = twin.told(17);
        checks.due("undo() behind it", x.undo(deeds), twin.undo(deeds));
        dueAlike(checks, "undone behind it", x, twin);
        for (int i = 0; i < 2; i++) {
            checks.due("goBack(" + i + ") behind it", x.goBack(i), twin.goBack(i));
            dueAlike(checks, "gone back to " + i + " behind it", x, twin);
        }
        checks.due("functions() behind it", x.functions(), twin.functions());
        dueAlike(checks, "functions() behind it", x, twin);
    }

    private static void dueAlike(Checks checks, String when, TakenUpCalls x, TakenUpCalls twin) {
        String got = all(x);
        String want = all(twin);
        checks.dueTrue("all is as it was " + when + ": " + got + ", due is " + want, got.equals(want));
    }

    /** All that can be asked, in a row; the seed is put back. */
    static String all(TakenUpCalls x) {
        StringBuilder row = new StringBuilder();
        for (int what = 0; what < 18; what++) {
            row.append(x.told(what)).append(' ');
        }
        row.append("| ").append(x.fault()).append(" |");
        for (int i = 0; i < 8; i++) {
            row.append(' ').append(x.cell(i));
        }
        for (int k = 0; k < x.told(3); k++) {
            row.append(" |");
            for (int what = 0; what < 11; what++) {
                row.append(' ').append(x.call(k, what));
            }
        }
        int seed = x.seed(0);
        x.seed(seed);
        return row.append(" | ").append(seed).toString();
    }
}
