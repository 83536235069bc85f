import java.lang.reflect.Method;
import java.util.Map;
import java.util.Set;
import java.util.TreeMap;
import java.util.TreeSet;

/**
 * Every part of the document has boundary tests, their names are apart, and no sentence of "What it is", of
 * "Terms" or of a promise is left without one. ("The public face" as a whole is held by FaceTest.)
 */
public final class SentencesTest {
    private static final Class<?>[] TESTS = {
        OverviewBoundaryTest.class, Terms1BoundaryTest.class, Terms2BoundaryTest.class, Terms3BoundaryTest.class, RefusalsBoundaryTest.class,
        FunctionsBoundaryTest.class, DeedsBoundaryTest.class, BookBoundaryTest.class, ImagesBoundaryTest.class,
    };
    /** What says nothing of its own: headings, a promise's line of the face, marks of a text, the captions of the interface, how words are told. */
    private static final String FRAME = "## Promise \\d+: [\\w ]+ `[^`]*`: |## What it is|## Terms|======== \\d |```(text)?"
        + "|Ahead of the calls `.*|Words in capitals are told where they come first\\.";

    private static final Checks checks = new Checks();

    public static void main(String[] args) {
        Map<String, Set<String>> quoted = quotedSentences();
        namesAreApart();
        Map<String, String> sections = Boundaries.sections();
        for (int n = 1; n <= 18; n++) {
            dueAllSaid("Promise " + n, sections, quoted);
        }
        dueAllSaid("What it is", sections, quoted);
        dueAllSaid("Terms", sections, quoted);
        for (int n = 1; n <= 3; n++) {
            dueAllSaid("Terms " + n, sections, quoted);
        }
        checks.finish();
    }

    private static Map<String, Set<String>> quotedSentences() {
        Map<String, Set<String>> quoted = new TreeMap<>();
        for (Class<?> tests : TESTS) {
            for (Method test : Boundaries.testsOf(tests)) {
                Sentence sentence = test.getAnnotation(Sentence.class);
                quoted.computeIfAbsent(sentence.in(), s -> new TreeSet<>()).add(sentence.says());
            }
        }
        return quoted;
    }

    private static void namesAreApart() {
        Set<String> names = new TreeSet<>();
        for (Class<?> tests : TESTS) {
            for (Method test : Boundaries.testsOf(tests)) {
                checks.dueTrue("the name " + test.getName() + " stands for one test alone", names.add(test.getName()));
            }
        }
    }

    private static void dueAllSaid(String section, Map<String, String> sections, Map<String, Set<String>> quoted) {
        String text = sections.getOrDefault(section, "").replaceAll(FRAME, "");
        String left = rest(text, quoted.getOrDefault(section, Set.of()));
        checks.dueTrue(section + " has no words without a test: " + left, !text.isEmpty() && !left.matches(".*\\w.*"));
    }

    /** What no test quotes, with '..' for what is quoted. */
    private static String rest(String text, Set<String> quotes) {
        boolean[] said = new boolean[text.length()];
        for (String quote : quotes) {
            for (int at = text.indexOf(quote); at >= 0; at = text.indexOf(quote, at + 1)) {
                for (int i = at; i < at + quote.length(); i++) {
                    said[i] = true;
                }
            }
        }
        StringBuilder left = new StringBuilder();
        for (int i = 0; i < text.length(); i++) {
            left.append(said[i] ? '.' : text.charAt(i));
        }
        return left.toString().replaceAll("\\.+", "..");
    }
}
