import java.util.ArrayDeque;
import java.util.ArrayList;
import java.util.List;

/**
 * The document's words once more, in the plainest way: terms as trees, calls as lists, nothing used
 * again. ModelTest holds the class against it.
 */
final class PlainModel {
    static final int NONE = -1, UNKNOWN = -1000000001, OUTSIDE = -1000000002, NOT = -1000000003, FULL = -1000000004;

    private static final class Fault extends RuntimeException {
        private static final long serialVersionUID = 1L;
        final int number;
        final int place;

        Fault(int number, int place) {
            this.number = number;
            this.place = place;
        }
    }

    private static final class Term {
        char kind;
        int figure;
        final List<Term> terms = new ArrayList<>();
    }

    private static final class Call {
        int function, argument, tells, name, doings, nest;
        int[] read = {-1, -1, -1, -1, -1, -1, -1, -1};
        List<Call> parts = new ArrayList<>();
        List<Call> before = new ArrayList<>();
        boolean brought;
    }

    private static final class Image {
        int[] cells;
        int aimFunction, aimArgument;
        long seed;
    }

    private final StringBuilder text = new StringBuilder();
    private int faultPlace = NONE;
    private List<Term> bodies = new ArrayList<>();
    private int[] cells = new int[8];
    private int aimFunction, aimArgument;
    private long seed;
    private final ArrayDeque<Image> undone = new ArrayDeque<>();
    private final Image[] images = new Image[2];
    private final List<int[]> book = new ArrayList<>();
    private Call root;
    private int madeEver, made, anew, gone;

    private int at;
    private int callsInBody;

    PlainModel() {
        text.append("d0;");
        functions();
    }

    // ---- the text

    private int letter() {
        while (at < text.length() && text.charAt(at) == ' ') {
            at++;
        }
        return at < text.length() ? text.charAt(at) : -1;
    }

    private List<Term> allBodies() {
        List<Term> found = new ArrayList<>();
        at = 0;
        while (letter() != -1 || found.isEmpty()) {
            if (letter() != 'd') {
                throw new Fault(1, at);
            }
            if (found.size() == 5) {
                throw new Fault(3, at);
            }
            at++;
            callsInBody = 0;
            found.add(term());
            if (letter() != ';') {
                throw new Fault(1, at);
            }
            at++;
        }
        return found;
    }

    private Term term() {
        int c = letter();
        if (c == -1 || "0123456789nxf+-*<?".indexOf(c) < 0) {
            throw new Fault(1, at);
        }
        Term t = new Term();
        t.kind = (char) c;
        int wanted = "+-*<".indexOf(c) >= 0 ? 2 : c == '?' ? 3 : c == 'x' || c == 'f' ? 1 : 0;
        if (c == 'f') {
            callsInBody++;
            if (callsInBody == 4) {
                throw new Fault(4, at);
            }
        }
        at++;
        if (c == 'f') {
            int figure = letter();
            if (figure < '0' || figure > '9') {
                throw new Fault(1, at);
            }
            if (figure > '4') {
                throw new Fault(2, at);
            }
            t.figure = figure - '0';
            at++;
        }
        for (int i = 0; i < wanted; i++) {
            t.terms.add(term());
        }
        return t;
    }

    // ---- calls

    private int value(Term t, Call c) {
        switch (t.kind) {
            case 'n':
                return c.argument;
            case 'x': {
                int i = value(t.terms.get(0), c) % 8;
                c.read[i] = cells[i];
                return cells[i];
            }
            case 'f':
                return called(c, t.figure, value(t.terms.get(0), c));
            case '?':
                return value(t.terms.get(value(t.terms.get(0), c) == 0 ? 2 : 1), c);
            case '+':
            case '-':
            case '*':
            case '<': {
                int a = value(t.terms.get(0), c);
                int b = value(t.terms.get(1), c);
                return t.kind == '<' ? (a < b ? 1 : 0)
                    : Math.floorMod(t.kind == '+' ? a + b : t.kind == '-' ? a - b : a * b, 997);
            }
            default:
                return t.kind - '0';
        }
    }

    private int called(Call c, int f, int argument) {
        if (f >= bodies.size() || c.nest == 6) {
            return 0;
        }
        Call part = null;
        for (int i = 0; i < c.before.size() && part == null; i++) {
            Call p = c.before.get(i);
            if (p.function == f && p.argument == argument) {
                part = p;
                for (int j = 0; j < i; j++) {
                    gone += holds(c.before.get(j));
                }
                c.before = new ArrayList<>(c.before.subList(i + 1, c.before.size()));
            }
        }
        if (part == null) {
            part = make(f, argument, c.nest + 1);
        } else if (!part.brought) {
            bringOne(part);
        }
        c.parts.add(part);
        return part.tells;
    }

    private Call make(int f, int argument, int nest) {
        Call c = new Call();
        c.function = f;
        c.argument = argument;
        c.nest = nest;
        c.name = madeEver++;
        c.doings = 1;
        made++;
        c.tells = value(bodies.get(f), c);
        return c;
    }

    private void bringOne(Call c) {
        c.brought = true;
        boolean otherwise = isOld(c);
        for (int i = 0; i < c.parts.size() && !otherwise; i++) {
            int told = c.parts.get(i).tells;
            bringOne(c.parts.get(i));
            otherwise = c.parts.get(i).tells != told;
        }
        if (!otherwise) {
            return;
        }
        anew++;
        c.doings++;
        c.before = c.parts;
        c.parts = new ArrayList<>();
        c.read = new int[] {-1, -1, -1, -1, -1, -1, -1, -1};
        c.tells = value(bodies.get(c.function), c);
        for (Call p : c.before) {
            gone += holds(p);
        }
        c.before = new ArrayList<>();
    }

    private boolean isOld(Call c) {
        for (int i = 0; i < 8; i++) {
            if (c.read[i] != -1 && c.read[i] != cells[i]) {
                return true;
            }
        }
        return false;
    }

    private static int holds(Call c) {
        int n = 1;
        for (Call p : c.parts) {
            n += holds(p);
        }
        return n;
    }

    private static void collect(Call c, List<Call> into) {
        into.add(c);
        for (Call p : c.parts) {
            collect(p, into);
        }
    }

    private List<Call> all() {
        List<Call> calls = new ArrayList<>();
        collect(root, calls);
        return calls;
    }

    private Call madeApart(int f, int argument) {
        int ever = madeEver;
        int now = made;
        Call c = make(f, argument, 1);
        madeEver = ever;
        made = now;
        return c;
    }

    private static boolean alike(Call a, Call b) {
        if (a.function != b.function || a.argument != b.argument || a.tells != b.tells || a.parts.size() != b.parts.size()) {
            return false;
        }
        for (int i = 0; i < a.parts.size(); i++) {
            if (!alike(a.parts.get(i), b.parts.get(i))) {
                return false;
            }
        }
        return true;
    }

    private static int readSet(Call c) {
        int set = 0;
        for (int i = 0; i < 8; i++) {
            set += c.read[i] != -1 ? 1 << i : 0;
        }
        return set;
    }

    // ---- the face

    int feed(int letter) {
        if (letter < 0 || letter > 255) {
            return OUTSIDE;
        }
        if (text.length() == 160) {
            return FULL;
        }
        text.append((char) letter);
        return text.length();
    }

    int functions() {
        List<Term> found;
        try {
            found = allBodies();
        } catch (Fault fault) {
            faultPlace = fault.place;
            text.setLength(0);
            return -10 - fault.number;
        }
        faultPlace = NONE;
        text.setLength(0);
        bodies = found;
        aimFunction = 0;
        aimArgument = 0;
        undone.clear();
        madeEver = 0;
        root = make(0, 0, 1);
        made = 0;
        anew = 0;
        gone = 0;
        return bodies.size();
    }

    int fault() {
        return faultPlace;
    }

    int told(int what) {
        switch (what) {
            case 0: return bodies.size();
            case 1: return text.length();
            case 2: return root.tells;
            case 3: return holds(root);
            case 4: return madeApart(aimFunction, aimArgument).tells;
            case 5: return alike(root, madeApart(aimFunction, aimArgument)) ? 1 : 0;
            case 6: return made;
            case 7: return anew;
            case 8: return gone;
            case 9: return madeEver;
            case 10: return all().stream().mapToInt(c -> c.nest).max().getAsInt();
            case 11: return (int) all().stream().filter(this::isOld).count();
            case 12: return all().stream().mapToInt(PlainModel::readSet).reduce(0, (a, b) -> a | b);
            case 13: return aimFunction;
            case 14: return aimArgument;
            case 15: return book.size();
            case 16: return wrong();
            case 17: return undone.size();
            default: return OUTSIDE;
        }
    }

    private int wrong() {
        for (int i = 0; i < book.size(); i++) {
            int[] e = book.get(i);
            int tells = e[0] < bodies.size() ? madeApart(e[0], e[1]).tells : 0;
            if (tells != e[2]) {
                return i;
            }
        }
        return NONE;
    }

    int cell(int i) {
        return i < 0 || i > 7 ? UNKNOWN : cells[i];
    }

    int call(int k, int what) {
        List<Call> calls = all();
        if (k < 0 || k >= calls.size()) {
            return UNKNOWN;
        }
        Call c = calls.get(k);
        switch (what) {
            case 0: return c.function;
            case 1: return c.argument;
            case 2: return c.tells;
            case 3: return c.name;
            case 4: return c.doings;
            case 5: return calls.indexOf(calls.stream().filter(m -> m.parts.contains(c)).findFirst().orElse(null));
            case 6: return c.nest;
            case 7: return readSet(c);
            case 8: return c.parts.size();
            case 9: return holds(c);
            case 10: return isOld(c) ? 1 : 0;
            default: return OUTSIDE;
        }
    }

    int find(int name) {
        List<Call> calls = all();
        for (int k = 0; k < calls.size(); k++) {
            if (calls.get(k).name == name) {
                return k;
            }
        }
        return NONE;
    }

    private void remember() {
        undone.addLast(imageOfNow());
        if (undone.size() > 16) {
            undone.removeFirst();
        }
    }

    private Image imageOfNow() {
        Image image = new Image();
        image.cells = cells.clone();
        image.aimFunction = aimFunction;
        image.aimArgument = aimArgument;
        image.seed = seed;
        return image;
    }

    int set(int i, int v) {
        if (i < 0 || i > 7) {
            return UNKNOWN;
        }
        if (v < 0 || v > 996) {
            return OUTSIDE;
        }
        remember();
        int held = cells[i];
        cells[i] = v;
        return held;
    }

    int aim(int f, int argument) {
        if (f < 0 || f >= bodies.size()) {
            return UNKNOWN;
        }
        if (argument < 0 || argument > 996) {
            return OUTSIDE;
        }
        remember();
        int another = f == aimFunction && argument == aimArgument ? 0 : 1;
        aimFunction = f;
        aimArgument = argument;
        return another;
    }

    int bring() {
        made = 0;
        anew = 0;
        gone = 0;
        for (Call c : all()) {
            c.brought = false;
        }
        if (root.function == aimFunction && root.argument == aimArgument) {
            bringOne(root);
        } else {
            gone = holds(root);
            root = make(aimFunction, aimArgument, 1);
        }
        return root.tells;
    }

    private int draw(int n) {
        seed = (seed * 1103515245L + 12345L) % 2147483648L;
        return (int) (seed / 65536 % n);
    }

    int drift(int n) {
        if (n < 1 || n > 12) {
            return OUTSIDE;
        }
        for (int i = 0; i < n; i++) {
            remember();
            int which = draw(8);
            cells[which] = draw(10);
        }
        return (int) seed;
    }

    int undo(int n) {
        if (n < 1 || n > 16) {
            return OUTSIDE;
        }
        if (n > undone.size()) {
            return NOT;
        }
        Image image = null;
        for (int i = 0; i < n; i++) {
            image = undone.removeLast();
        }
        cells = image.cells;
        aimFunction = image.aimFunction;
        aimArgument = image.aimArgument;
        return undone.size();
    }

    int write(int f, int argument, int v) {
        if (f < 0 || f >= bodies.size()) {
            return UNKNOWN;
        }
        if (argument < 0 || argument > 996) {
            return OUTSIDE;
        }
        if (book.size() == 20) {
            return FULL;
        }
        book.add(new int[] {f, argument, v});
        return book.size();
    }

    int tear() {
        int had = book.size();
        book.clear();
        return had;
    }

    int seed(int v) {
        if (v < 0) {
            return OUTSIDE;
        }
        int was = (int) seed;
        seed = v;
        return was;
    }

    int keep(int i) {
        if (i < 0 || i > 1) {
            return UNKNOWN;
        }
        images[i] = imageOfNow();
        undone.clear();
        return 1;
    }

    int goBack(int i) {
        if (i < 0 || i > 1) {
            return UNKNOWN;
        }
        if (images[i] == null || images[i].aimFunction >= bodies.size()) {
            return NOT;
        }
        cells = images[i].cells.clone();
        aimFunction = images[i].aimFunction;
        aimArgument = images[i].aimArgument;
        seed = images[i].seed;
        undone.clear();
        return 1;
    }
}
