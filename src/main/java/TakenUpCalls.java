/**
 * Functions told in a text; one call of one of them is kept with all calls that it makes, and is
 * brought up to date when cells are set, with as little done anew as the document allows.
 */
public final class TakenUpCalls {
    public static final int NONE = -1, UNKNOWN = -1000000001, OUTSIDE = -1000000002, NOT = -1000000003, FULL = -1000000004;

    private static final int NUMBERS = 997;
    private static final int CELLS = 8;
    private static final int FUNCTIONS = 5;
    private static final int LETTERS = 160;
    private static final int LETTER_CODES = 256;
    private static final int CALLS_IN_A_BODY = 3;
    private static final int NESTS = 6;
    /** 1 + 3 + 9 + 27 + 81 + 243: no trace has more. */
    private static final int CALLS = 364;
    private static final int ENTRIES = 20;
    private static final int DEEDS = 16;
    private static final int DRIFTS = 12;
    private static final int VALUES_BY_DRAW = 10;
    private static final int IMAGES = 2;
    private static final int FAULT_BASE = -10;

    /** No letter becomes more than two steps. */
    private static final int STEPS = 2 * LETTERS;
    private static final int NUMBER = 0, ARGUMENT = 1, READ = 2, CALLED = 3, SUM = 4, DIFFERENCE = 5, PRODUCT = 6, LESS = 7;
    private static final int CHOICE = 8, SKIP_ON_ZERO = 9, SKIP = 10, END = 11;

    private final int[] text = new int[LETTERS];
    private int letters;
    private int faultPlace = NONE;
    private final Reader reader = new Reader();
    private Program program = new Program();
    private Program spare = new Program();
    private final Scene scene = new Scene();
    private final Maker maker;
    /** Makes what is only asked for, so that the names and counts of the trace stay as they are. */
    private final Maker trial;
    private final Trace trace = new Trace();
    private final Deeds deeds = new Deeds();
    private final Book book = new Book();
    private final Scene[] images = new Scene[IMAGES];

    public TakenUpCalls() {
        Pool pool = new Pool();
        maker = new Maker(scene, pool, program);
        trial = new Maker(scene, pool, program);
        addLetter('d');
        addLetter('0');
        addLetter(';');
        takeText();
    }

    // ---- functions

    public int feed(int letter) {
        if (letter < 0 || letter >= LETTER_CODES) {
            return OUTSIDE;
        }
        return addLetter(letter) ? letters : FULL;
    }

    public int functions() {
        int fault = takeText();
        return fault == 0 ? program.functions : FAULT_BASE - fault;
    }

    public int fault() {
        return faultPlace;
    }

    public int told(int what) {
        switch (what) {
            case 0: return program.functions;
            case 1: return letters;
            case 2: return trace.rootTells();
            case 3: return trace.size;
            case 4: return tellingByItself(scene.aimFunction, scene.aimArgument);
            case 5: return isAlike() ? 1 : 0;
            case 6: return maker.made;
            case 7: return maker.doneAnew;
            case 8: return maker.gone;
            case 9: return maker.madeEver;
            case 10: return trace.greatestNest();
            case 11: return trace.howManyOld(scene.cells);
            case 12: return trace.cellsRead();
            case 13: return scene.aimFunction;
            case 14: return scene.aimArgument;
            case 15: return book.entries;
            case 16: return firstWrong();
            case 17: return deeds.count;
            default: return OUTSIDE;
        }
    }

    public int cell(int i) {
        return isCell(i) ? scene.cells[i] : UNKNOWN;
    }

    public int call(int k, int what) {
        Call c = trace.numbered(k);
        if (c == null) {
            return UNKNOWN;
        }
        switch (what) {
            case 0: return c.function;
            case 1: return c.argument;
            case 2: return c.tells;
            case 3: return c.name;
            case 4: return c.doings;
            case 5: return c.madeBy;
            case 6: return c.nest;
            case 7: return c.reads;
            case 8: return c.howManyParts();
            case 9: return c.holds;
            case 10: return c.isOld(scene.cells) ? 1 : 0;
            default: return OUTSIDE;
        }
    }

    public int find(int name) {
        return trace.numberOfName(name);
    }

    // ---- deeds

    public int set(int i, int v) {
        if (!isCell(i)) {
            return UNKNOWN;
        }
        if (!isNumber(v)) {
            return OUTSIDE;
        }
        return changeCell(i, v);
    }

    public int aim(int f, int argument) {
        if (!program.tellsOf(f)) {
            return UNKNOWN;
        }
        if (!isNumber(argument)) {
            return OUTSIDE;
        }
        boolean another = f != scene.aimFunction || argument != scene.aimArgument;
        deeds.noteAim(scene.aimFunction, scene.aimArgument);
        scene.aimFunction = f;
        scene.aimArgument = argument;
        return another ? 1 : 0;
    }

    public int bring() {
        trace.list(maker.broughtRoot(trace.root));
        return trace.rootTells();
    }

    public int drift(int n) {
        if (n < 1 || n > DRIFTS) {
            return OUTSIDE;
        }
        for (int k = 0; k < n; k++) {
            int i = scene.draw(CELLS);
            int v = scene.draw(VALUES_BY_DRAW);
            changeCell(i, v);
        }
        return scene.seed;
    }

    public int undo(int n) {
        if (n < 1 || n > DEEDS) {
            return OUTSIDE;
        }
        if (n > deeds.count) {
            return NOT;
        }
        for (int k = 0; k < n; k++) {
            deeds.takeBackLatest(scene);
        }
        return deeds.count;
    }

    // ---- the book

    public int write(int f, int argument, int v) {
        if (!program.tellsOf(f)) {
            return UNKNOWN;
        }
        if (!isNumber(argument)) {
            return OUTSIDE;
        }
        return book.addEntry(f, argument, v) ? book.entries : FULL;
    }

    public int tear() {
        int had = book.entries;
        book.entries = 0;
        return had;
    }

    // ---- images

    public int seed(int v) {
        if (v < 0) {
            return OUTSIDE;
        }
        int was = scene.seed;
        scene.seed = v;
        return was;
    }

    public int keep(int i) {
        if (!isImage(i)) {
            return UNKNOWN;
        }
        Scene image = images[i];
        if (image == null) {
            image = new Scene();
            images[i] = image;
        }
        image.become(scene);
        deeds.forget();
        return 1;
    }

    public int goBack(int i) {
        if (!isImage(i)) {
            return UNKNOWN;
        }
        Scene image = images[i];
        if (image == null || !program.tellsOf(image.aimFunction)) {
            return NOT;
        }
        scene.become(image);
        deeds.forget();
        return 1;
    }

    // ---- beneath the face

    private static boolean isCell(int i) {
        return i >= 0 && i < CELLS;
    }

    private static boolean isNumber(int v) {
        return v >= 0 && v < NUMBERS;
    }

    private static boolean isImage(int i) {
        return i >= 0 && i < IMAGES;
    }

    private boolean addLetter(int letter) {
        if (letters >= LETTERS) {
            return false;
        }
        text[letters] = letter;
        letters++;
        return true;
    }

    /** The fault's number, 0 if there is none; the functions so far stay untouched by a faulty text. */
    private int takeText() {
        int fault = reader.readInto(spare, text, letters);
        letters = 0;
        if (fault != 0) {
            faultPlace = reader.place;
            return fault;
        }
        faultPlace = NONE;
        Program old = program;
        program = spare;
        spare = old;
        startAnew();
        return 0;
    }

    private void startAnew() {
        scene.aimFunction = 0;
        scene.aimArgument = 0;
        deeds.forget();
        trial.takeProgram(program);
        maker.takeProgram(program);
        maker.letGoWithAll(trace.root);
        trace.list(maker.firstRoot());
    }

    private int changeCell(int i, int v) {
        int held = scene.cells[i];
        deeds.noteCell(i, held);
        scene.cells[i] = v;
        return held;
    }

    private int tellingByItself(int f, int argument) {
        Call c = trial.madeByItself(f, argument);
        int tells = c.tells;
        trial.letGoWithAll(c);
        return tells;
    }

    private boolean isAlike() {
        Call c = trial.madeByItself(scene.aimFunction, scene.aimArgument);
        boolean alike = trace.root != null && trace.root.isAlike(c);
        trial.letGoWithAll(c);
        return alike;
    }

    private int firstWrong() {
        for (int e = 0; e < book.entries; e++) {
            int f = book.functionAt(e);
            int tells = program.tellsOf(f) ? tellingByItself(f, book.argumentAt(e)) : 0;
            if (tells != book.tellingAt(e)) {
                return e;
            }
        }
        return NONE;
    }

    /** What deeds change and images keep. */
    private static final class Scene {
        final int[] cells = new int[CELLS];
        int aimFunction;
        int aimArgument;
        int seed;

        void become(Scene other) {
            System.arraycopy(other.cells, 0, cells, 0, CELLS);
            aimFunction = other.aimFunction;
            aimArgument = other.aimArgument;
            seed = other.seed;
        }

        int draw(int n) {
            seed = (seed * 1103515245 + 12345) & 0x7fffffff;
            return n > 0 ? seed / 65536 % n : 0;
        }
    }

    /** The latest deeds, each as what was ahead of it; the oldest place is used again when all are. */
    private static final class Deeds {
        private static final int OF_THE_AIM = -1;

        private final int[] ofWhat = new int[DEEDS];
        private final int[] first = new int[DEEDS];
        private final int[] second = new int[DEEDS];
        private int latest;
        int count;

        void noteCell(int i, int held) {
            note(i, held, 0);
        }

        void noteAim(int f, int argument) {
            note(OF_THE_AIM, f, argument);
        }

        private void note(int what, int a, int b) {
            latest = (latest + 1) % DEEDS;
            ofWhat[latest] = what;
            first[latest] = a;
            second[latest] = b;
            count = Math.min(count + 1, DEEDS);
        }

        void forget() {
            count = 0;
        }

        void takeBackLatest(Scene scene) {
            if (count == 0) {
                return;
            }
            int what = ofWhat[latest];
            if (what == OF_THE_AIM) {
                scene.aimFunction = first[latest];
                scene.aimArgument = second[latest];
            } else if (isCell(what)) {
                scene.cells[what] = first[latest];
            }
            latest = (latest + DEEDS - 1) % DEEDS;
            count--;
        }
    }

    /** What functions are said to tell. */
    private static final class Book {
        private final int[] function = new int[ENTRIES];
        private final int[] argument = new int[ENTRIES];
        private final int[] telling = new int[ENTRIES];
        int entries;

        boolean addEntry(int f, int a, int v) {
            if (entries >= ENTRIES) {
                return false;
            }
            function[entries] = f;
            argument[entries] = a;
            telling[entries] = v;
            entries++;
            return true;
        }

        private boolean has(int e) {
            return e >= 0 && e < entries;
        }

        int functionAt(int e) {
            return has(e) ? function[e] : NONE;
        }

        int argumentAt(int e) {
            return has(e) ? argument[e] : 0;
        }

        int tellingAt(int e) {
            return has(e) ? telling[e] : 0;
        }
    }

    /**
     * The bodies as steps over a stack of numbers, the operands ahead of what joins them: terms may
     * nest so deep that going through them by recursion would leave too many calls open.
     */
    private static final class Program {
        private final int[] step = new int[STEPS];
        private final int[] value = new int[STEPS];
        private final int[] start = new int[FUNCTIONS];
        int steps;
        int functions;

        void clear() {
            steps = 0;
            functions = 0;
        }

        void beginFunction() {
            if (functions < FUNCTIONS) {
                start[functions] = steps;
            }
        }

        void endFunction() {
            addStep(END, 0);
            if (functions < FUNCTIONS) {
                functions++;
            }
        }

        /** The place of the step. */
        int addStep(int what, int v) {
            if (steps >= STEPS) {
                return NONE;
            }
            step[steps] = what;
            value[steps] = v;
            steps++;
            return steps - 1;
        }

        void skipToHere(int at) {
            if (at >= 0 && at < steps) {
                value[at] = steps;
            }
        }

        boolean tellsOf(int f) {
            return f >= 0 && f < functions;
        }

        int startOf(int f) {
            return tellsOf(f) ? start[f] : NONE;
        }

        int stepAt(int at) {
            return at >= 0 && at < steps ? step[at] : END;
        }

        int valueAt(int at) {
            return at >= 0 && at < steps ? value[at] : 0;
        }
    }

    /** Reads a text from the left, letter by letter, and finds its first fault. */
    private static final class Reader {
        private static final int FAULT_PLACE = 1, FAULT_FIGURE = 2, FAULT_FUNCTIONS = 3, FAULT_CALLS = 4;
        private static final int AHEAD_OF_FUNCTION = 0, AHEAD_OF_TERM = 1, BEHIND_F = 2, BEHIND_BODY = 3;

        /** The terms begun and not ended, the outer ones first: their step, its value, the terms that they still want. */
        private final int[] openStep = new int[LETTERS];
        private final int[] openValue = new int[LETTERS];
        private final int[] openWants = new int[LETTERS];
        private int open;
        private int awaits;
        private int callsInBody;
        private Program program;
        int place;

        int readInto(Program into, int[] text, int letters) {
            program = into;
            program.clear();
            awaits = AHEAD_OF_FUNCTION;
            int end = Math.min(letters, text.length);
            for (place = 0; place < end; place++) {
                int fault = text[place] == ' ' ? 0 : readLetter(text[place]);
                if (fault != 0) {
                    return fault;
                }
            }
            return awaits == AHEAD_OF_FUNCTION && program.functions > 0 ? 0 : FAULT_PLACE;
        }

        private int readLetter(int letter) {
            switch (awaits) {
                case AHEAD_OF_FUNCTION: return beginFunction(letter);
                case AHEAD_OF_TERM: return beginTerm(letter);
                case BEHIND_F: return readCalledFunction(letter);
                default: return endFunction(letter);
            }
        }

        private int beginFunction(int letter) {
            if (letter != 'd') {
                return FAULT_PLACE;
            }
            if (program.functions >= FUNCTIONS) {
                return FAULT_FUNCTIONS;
            }
            program.beginFunction();
            open = 0;
            callsInBody = 0;
            awaits = AHEAD_OF_TERM;
            return 0;
        }

        private int endFunction(int letter) {
            if (letter != ';') {
                return FAULT_PLACE;
            }
            program.endFunction();
            awaits = AHEAD_OF_FUNCTION;
            return 0;
        }

        private int beginTerm(int letter) {
            if (isFigure(letter)) {
                return readLeaf(NUMBER, letter - '0');
            }
            switch (letter) {
                case 'n': return readLeaf(ARGUMENT, 0);
                case 'x': return openTerm(READ, 0, 1);
                case 'f': return beginCall();
                case '+': return openTerm(SUM, 0, 2);
                case '-': return openTerm(DIFFERENCE, 0, 2);
                case '*': return openTerm(PRODUCT, 0, 2);
                case '<': return openTerm(LESS, 0, 2);
                case '?': return openTerm(CHOICE, NONE, 3);
                default: return FAULT_PLACE;
            }
        }

        private int beginCall() {
            if (callsInBody >= CALLS_IN_A_BODY) {
                return FAULT_CALLS;
            }
            callsInBody++;
            awaits = BEHIND_F;
            return 0;
        }

        private int readCalledFunction(int letter) {
            if (!isFigure(letter)) {
                return FAULT_PLACE;
            }
            if (letter - '0' >= FUNCTIONS) {
                return FAULT_FIGURE;
            }
            awaits = AHEAD_OF_TERM;
            return openTerm(CALLED, letter - '0', 1);
        }

        private int openTerm(int step, int v, int wants) {
            if (open >= LETTERS) {
                return FAULT_PLACE;
            }
            openStep[open] = step;
            openValue[open] = v;
            openWants[open] = wants;
            open++;
            return 0;
        }

        private int readLeaf(int step, int v) {
            program.addStep(step, v);
            for (int top = open - 1; top >= 0; top--) {
                openWants[top]--;
                if (openStep[top] == CHOICE) {
                    placeSkips(top);
                }
                if (openWants[top] > 0) {
                    return 0;
                }
                if (openStep[top] != CHOICE) {
                    program.addStep(openStep[top], openValue[top]);
                }
                open = top;
            }
            awaits = BEHIND_BODY;
            return 0;
        }

        /** One of the three terms of a choice has ended; its value is the place of the skip whose aim isn't known yet. */
        private void placeSkips(int top) {
            if (openWants[top] == 2) {
                openValue[top] = program.addStep(SKIP_ON_ZERO, 0);
            } else if (openWants[top] == 1) {
                int skip = program.addStep(SKIP, 0);
                program.skipToHere(openValue[top]);
                openValue[top] = skip;
            } else {
                program.skipToHere(openValue[top]);
            }
        }

        private static boolean isFigure(int letter) {
            return letter >= '0' && letter <= '9';
        }
    }

    /** A call with what it read itself and told; its parts are a chain by next. */
    private static final class Call {
        int function;
        int argument;
        int tells;
        int name;
        int doings;
        int nest;
        int reads;
        private final int[] held = new int[CELLS];
        Call firstPart;
        private Call lastPart;
        Call next;
        /** While it is done: the parts so far behind the one last taken up. */
        Call partsSoFar;
        int broughtBy;
        int madeBy;
        int holds;

        void begin(int f, int a, int nestNow, int nameNow) {
            function = f;
            argument = a;
            nest = nestNow;
            name = nameNow;
            tells = 0;
            doings = 0;
            firstPart = null;
            broughtBy = 0;
        }

        void beginDoing() {
            doings++;
            reads = 0;
            partsSoFar = firstPart;
            firstPart = null;
            lastPart = null;
        }

        void addPart(Call part) {
            part.next = null;
            if (lastPart == null) {
                firstPart = part;
            } else {
                lastPart.next = part;
            }
            lastPart = part;
        }

        /** Of the parts so far that may be taken up, the first of this function and argument. */
        Call firstSoFar(int f, int a) {
            for (Call part = partsSoFar; part != null; part = part.next) {
                if (part.isOf(f, a)) {
                    return part;
                }
            }
            return null;
        }

        void noteRead(int i, int v) {
            if (i >= 0 && i < CELLS) {
                reads |= 1 << i;
                held[i] = v;
            }
        }

        boolean isOf(int f, int a) {
            return function == f && argument == a;
        }

        boolean isOld(int[] cells) {
            int seen = Math.min(cells.length, CELLS);
            for (int i = 0; i < seen; i++) {
                if ((reads >> i & 1) != 0 && held[i] != cells[i]) {
                    return true;
                }
            }
            return false;
        }

        int howManyParts() {
            int n = 0;
            for (Call part = firstPart; part != null; part = part.next) {
                n++;
            }
            return n;
        }

        boolean isAlike(Call other) {
            return areAlike(this, other);
        }

        private static boolean areAlike(Call a, Call b) {
            if (a.nest > NESTS || !a.isOf(b.function, b.argument) || a.tells != b.tells) {
                return false;
            }
            Call y = b.firstPart;
            for (Call x = a.firstPart; x != null; x = x.next) {
                if (y == null || !areAlike(x, y)) {
                    return false;
                }
                y = y.next;
            }
            return y == null;
        }
    }

    /** Calls that are gone, to be used again. */
    private static final class Pool {
        private Call free;

        Call take() {
            Call c = free;
            if (c == null) {
                return new Call();
            }
            free = c.next;
            c.next = null;
            return c;
        }

        void giveBack(Call c) {
            c.firstPart = null;
            c.partsSoFar = null;
            c.next = free;
            free = c;
        }
    }

    /** Makes calls, brings them, lets them go, and counts what it did. */
    private static final class Maker {
        private final Scene scene;
        private final Pool pool;
        private final int[] stack = new int[NESTS * LETTERS];
        private int top;
        private Program program;
        private int brings;
        int madeEver;
        int made;
        int doneAnew;
        int gone;

        Maker(Scene ofScene, Pool ofPool, Program ofProgram) {
            scene = ofScene;
            pool = ofPool;
            program = ofProgram;
        }

        void takeProgram(Program told) {
            program = told;
        }

        Call firstRoot() {
            madeEver = 0;
            Call root = make(0, 0, 1);
            clearCounts();
            return root;
        }

        Call madeByItself(int f, int argument) {
            return make(f, argument, 1);
        }

        Call broughtRoot(Call root) {
            clearCounts();
            brings++;
            if (root != null && root.isOf(scene.aimFunction, scene.aimArgument)) {
                bringUp(root);
                return root;
            }
            letGoWithAll(root);
            return make(scene.aimFunction, scene.aimArgument, 1);
        }

        void letGoWithAll(Call c) {
            if (c != null) {
                letGo(c);
            }
        }

        private void clearCounts() {
            made = 0;
            doneAnew = 0;
            gone = 0;
        }

        private Call make(int f, int argument, int nest) {
            Call c = pool.take();
            c.begin(f, argument, nest, madeEver);
            madeEver++;
            made++;
            goThrough(c);
            return c;
        }

        private void bringUp(Call c) {
            c.broughtBy = brings;
            if (c.isOld(scene.cells) || isAnyPartOtherwise(c)) {
                doneAnew++;
                goThrough(c);
            }
        }

        private boolean isAnyPartOtherwise(Call c) {
            if (c.nest >= NESTS) {
                return false;
            }
            for (Call part = c.firstPart; part != null; part = part.next) {
                int told = part.tells;
                bringUp(part);
                if (part.tells != told) {
                    return true;
                }
            }
            return false;
        }

        private void goThrough(Call c) {
            c.beginDoing();
            int at = program.startOf(c.function);
            // Skips only go forward, so no body takes more steps than there are.
            for (int taken = 0; taken < STEPS; taken++) {
                int step = program.stepAt(at);
                if (step == END) {
                    break;
                }
                at = takeStep(c, step, at);
            }
            c.tells = pop();
            letGoChain(c.partsSoFar, null);
            c.partsSoFar = null;
        }

        /** The place of the step that comes then. */
        private int takeStep(Call c, int step, int at) {
            int v = program.valueAt(at);
            switch (step) {
                case NUMBER: push(v); break;
                case ARGUMENT: push(c.argument); break;
                case READ: push(readCell(c, pop())); break;
                case CALLED: push(whatPartTells(c, v, pop())); break;
                case SKIP: return v;
                case SKIP_ON_ZERO: return pop() == 0 ? v : at + 1;
                default: joinTwo(step); break;
            }
            return at + 1;
        }

        private void joinTwo(int step) {
            int b = pop();
            int a = pop();
            switch (step) {
                case SUM: push((a + b) % NUMBERS); break;
                case DIFFERENCE: push((a - b + NUMBERS) % NUMBERS); break;
                case PRODUCT: push(a * b % NUMBERS); break;
                default: push(a < b ? 1 : 0); break;
            }
        }

        private int readCell(Call c, int v) {
            int i = Math.floorMod(v, CELLS);
            c.noteRead(i, scene.cells[i]);
            return scene.cells[i];
        }

        private int whatPartTells(Call c, int f, int argument) {
            if (!program.tellsOf(f) || c.nest >= NESTS) {
                return 0;
            }
            Call part = c.firstSoFar(f, argument);
            if (part == null) {
                part = make(f, argument, c.nest + 1);
            } else {
                takeUp(c, part);
            }
            c.addPart(part);
            return part.tells;
        }

        private void takeUp(Call c, Call part) {
            letGoChain(c.partsSoFar, part);
            c.partsSoFar = part.next;
            if (part.broughtBy != brings) {
                bringUp(part);
            }
        }

        private void letGoChain(Call from, Call end) {
            Call part = from;
            while (part != null && part != end) {
                Call behind = part.next;
                letGo(part);
                part = behind;
            }
        }

        private void letGo(Call c) {
            if (c.nest < NESTS) {
                letGoChain(c.firstPart, null);
            }
            gone++;
            pool.giveBack(c);
        }

        private void push(int v) {
            if (top < stack.length) {
                stack[top] = v;
                top++;
            }
        }

        private int pop() {
            if (top == 0) {
                return 0;
            }
            top--;
            return stack[top];
        }
    }

    /** The root and all that it holds, numbered as they are begun. */
    private static final class Trace {
        private final Call[] calls = new Call[CALLS];
        Call root;
        int size;

        void list(Call newRoot) {
            root = newRoot;
            size = 0;
            if (root != null) {
                listAll(root, NONE);
            }
        }

        private void listAll(Call c, int madeBy) {
            if (size >= CALLS || c.nest > NESTS) {
                return;
            }
            int number = size;
            calls[number] = c;
            size++;
            c.madeBy = madeBy;
            for (Call part = c.firstPart; part != null; part = part.next) {
                listAll(part, number);
            }
            c.holds = size - number;
        }

        Call numbered(int k) {
            return k >= 0 && k < size ? calls[k] : null;
        }

        int numberOfName(int name) {
            for (int k = 0; k < size; k++) {
                if (calls[k].name == name) {
                    return k;
                }
            }
            return NONE;
        }

        int rootTells() {
            return root == null ? 0 : root.tells;
        }

        int greatestNest() {
            int greatest = 0;
            for (int k = 0; k < size; k++) {
                greatest = Math.max(greatest, calls[k].nest);
            }
            return greatest;
        }

        int howManyOld(int[] cells) {
            int old = 0;
            for (int k = 0; k < size; k++) {
                if (calls[k].isOld(cells)) {
                    old++;
                }
            }
            return old;
        }

        int cellsRead() {
            int cells = 0;
            for (int k = 0; k < size; k++) {
                cells |= calls[k].reads;
            }
            return cells;
        }
    }
}
