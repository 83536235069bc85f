import java.lang.reflect.Constructor;
import java.lang.reflect.Field;
import java.lang.reflect.Member;
import java.lang.reflect.Method;
import java.lang.reflect.Modifier;
import java.util.Arrays;
import java.util.List;
import java.util.Set;
import java.util.TreeSet;

/** The public face, and promise 1: a new object. */
public final class FaceTest {
    private static final Checks checks = new Checks();

    public static void main(String[] args) {
        constants();
        members();
        faceOfTheDocument();
        newObject();
        newObjectsAreApart();
        checks.finish();
    }

    private static void constants() {
        checks.due("NONE", TakenUpCalls.NONE, -1);
        checks.due("UNKNOWN", TakenUpCalls.UNKNOWN, -1000000001);
        checks.due("OUTSIDE", TakenUpCalls.OUTSIDE, -1000000002);
        checks.due("NOT", TakenUpCalls.NOT, -1000000003);
        checks.due("FULL", TakenUpCalls.FULL, -1000000004);
    }

    private static void members() {
        Class<?> face = TakenUpCalls.class;
        checks.dueTrue("the class is public and final", Modifier.isPublic(face.getModifiers()) && Modifier.isFinal(face.getModifiers()));
        Set<String> open = new TreeSet<>();
        for (Method m : face.getDeclaredMethods()) {
            if (isOpen(m)) {
                open.add(m.getReturnType().getName() + " " + m.getName() + Arrays.toString(m.getParameterTypes()));
            }
        }
        Set<String> due = new TreeSet<>();
        for (String name : List.of("functions", "fault", "bring", "tear")) {
            due.add("int " + name + "[]");
        }
        for (String name : List.of("feed", "told", "cell", "find", "drift", "undo", "seed", "keep", "goBack")) {
            due.add("int " + name + "[int]");
        }
        for (String name : List.of("call", "set", "aim")) {
            due.add("int " + name + "[int, int]");
        }
        due.add("int write[int, int, int]");
        checks.dueTrue("open methods " + open + ", due are " + due, open.equals(due));
        Set<String> fields = new TreeSet<>();
        for (Field f : face.getDeclaredFields()) {
            if (isOpen(f)) {
                fields.add(f.getName());
            }
        }
        checks.dueTrue("open fields " + fields, fields.equals(new TreeSet<>(List.of("NONE", "UNKNOWN", "OUTSIDE", "NOT", "FULL"))));
        Constructor<?>[] constructors = face.getDeclaredConstructors();
        checks.dueTrue("one public constructor without arguments", constructors.length == 1
            && Modifier.isPublic(constructors[0].getModifiers()) && constructors[0].getParameterCount() == 0);
    }

    /** Each line of the face that the document shows, and no other. */
    private static void faceOfTheDocument() {
        String section = Boundaries.sections().getOrDefault("The public face", "");
        Set<String> due = new TreeSet<>();
        for (String part : section.replaceAll(".*```java|```.*", "").split("[{};]")) {
            if (!part.isBlank()) {
                due.add(withoutNames(part.strip()));
            }
        }
        Set<String> face = new TreeSet<>(List.of(Modifier.toString(TakenUpCalls.class.getModifiers()) + " class TakenUpCalls", "public TakenUpCalls()",
            "public static final int NONE = " + TakenUpCalls.NONE + ", UNKNOWN = " + TakenUpCalls.UNKNOWN + ", OUTSIDE = " + TakenUpCalls.OUTSIDE
            + ", NOT = " + TakenUpCalls.NOT + ", FULL = " + TakenUpCalls.FULL));
        for (Method m : TakenUpCalls.class.getDeclaredMethods()) {
            if (isOpen(m)) {
                face.add(m.toString().replace("TakenUpCalls.", "").replace(",", ", "));
            }
        }
        checks.dueTrue("the face " + face + ", the document's is " + due, face.equals(due));
    }

    /** The names of parameters aren't kept in a compiled class. */
    private static String withoutNames(String method) {
        return method.replaceAll("\\bint \\w+(?=[,)])", "int");
    }

    private static boolean isOpen(Member m) {
        return !Modifier.isPrivate(m.getModifiers()) && !m.isSynthetic();
    }

    private static void newObject() {
        TakenUpCalls x = new TakenUpCalls();
        checks.dueTold("new", x, 0, 1, 0, 0, 1, 0, 1, 0, 0, 0, 1, 1, 0, 0, 0, 0, 0, -1, 0);
        checks.dueCall("new", x, 0, 0, 0, 0, 0, 1, -1, 1, 0, 0, 1, 0);
        checks.due("new: call(1, 0)", x.call(1, 0), Checks.UNKNOWN);
        checks.due("new: fault()", x.fault(), Checks.NONE);
        for (int i = 0; i < 8; i++) {
            checks.due("new: cell(" + i + ")", x.cell(i), 0);
        }
        checks.due("new: goBack(0)", x.goBack(0), Checks.NOT);
        checks.due("new: goBack(1)", x.goBack(1), Checks.NOT);
        checks.due("new: undo(1)", x.undo(1), Checks.NOT);
        checks.due("new: tear()", x.tear(), 0);
        checks.due("new: seed(0)", x.seed(0), 0);
        checks.due("new: find(0)", x.find(0), 0);
        checks.due("new: find(1)", x.find(1), Checks.NONE);
        checks.due("new: bring()", x.bring(), 0);
    }

    private static void newObjectsAreApart() {
        TakenUpCalls a = new TakenUpCalls();
        TakenUpCalls b = new TakenUpCalls();
        a.set(3, 9);
        a.feed('d');
        a.seed(5);
        a.keep(0);
        a.write(0, 0, 0);
        checks.due("apart: cell(3)", b.cell(3), 0);
        checks.due("apart: letters", b.told(1), 0);
        checks.due("apart: seed", b.seed(1), 0);
        checks.due("apart: image", b.goBack(0), Checks.NOT);
        checks.due("apart: book", b.told(15), 0);
    }
}
