import java.util.Random;

/** Runs of calls drawn by fixed seeds, each answer held against PlainModel. */
public final class ModelTest {
    private static final int RUNS = 4000;
    private static final int CALLS_OF_A_RUN = 512;
    private static final int LETTERS = 160;
    /** The most calls that one thing done in go() takes: a full text, functions(), fault(). */
    private static final int CALLS_AT_ONCE = LETTERS + 2;

    private static int wrong;

    private final Random random;
    private final int run;
    private final TakenUpCalls x = new TakenUpCalls();
    private final PlainModel m = new PlainModel();
    private final StringBuilder log = new StringBuilder();
    private int calls;

    private ModelTest(int run) {
        this.run = run;
        random = new Random(run);
    }

    public static void main(String[] args) {
        for (int run = 0; run < RUNS && wrong < 5; run++) {
            new ModelTest(run).go();
        }
        System.out.println(RUNS + " runs, " + wrong + " not as due");
        if (wrong != 0) {
            System.exit(1);
        }
    }

    private void go() {
        boolean alike = true;
        while (alike && calls + 6 <= CALLS_OF_A_RUN) {
            int what = random.nextInt(100);
            if (what < 2 && calls + CALLS_AT_ONCE > CALLS_OF_A_RUN) {
                what = 99;
            }
            if (calls == 0 || what < 2) {
                alike = tellText(what == 1 ? brokenText() : properText());
            } else if (what < 4) {
                alike = feedNoise();
            } else if (what < 50) {
                alike = deed();
            } else {
                alike = ask();
            }
        }
        if (!alike) {
            wrong++;
        }
    }

    private boolean same(String call, int got, int due) {
        calls++;
        log.append(call).append(" = ").append(due).append('\n');
        if (got == due) {
            return true;
        }
        System.out.println("run " + run + ":\n" + log + "the last answered " + got);
        return false;
    }

    // ---- texts

    private boolean tellText(String text) {
        boolean alike = true;
        for (int i = 0; i < text.length() && alike; i++) {
            int letter = text.charAt(i);
            alike = same("feed(" + letter + ")", x.feed(letter), m.feed(letter));
        }
        return alike && same("functions()", x.functions(), m.functions()) && same("fault()", x.fault(), m.fault());
    }

    private boolean feedNoise() {
        int[] letters = {-1, 0, 255, 256, 'd', 'f', ' ', 100000, Integer.MIN_VALUE};
        int letter = letters[random.nextInt(letters.length)];
        boolean alike = same("feed(" + letter + ")", x.feed(letter), m.feed(letter));
        return alike && (random.nextInt(2) == 0 || same("functions()", x.functions(), m.functions()));
    }

    private String properText() {
        int functions = 1 + random.nextInt(5);
        boolean blanks = random.nextInt(6) == 0;
        StringBuilder b = new StringBuilder();
        for (int f = 0; f < functions; f++) {
            int room = Math.min(10 + random.nextInt(40), LETTERS / functions - 3);
            int[] left = {random.nextInt(8) == 0 ? random.nextInt(3) : 3, Math.max(room, 3)};
            b.append('d');
            term(b, left, functions);
            b.append(';');
            if (blanks) {
                b.insert(random.nextInt(b.length()), ' ');
            }
        }
        return b.length() > LETTERS ? "d+x0f0x1;" : b.toString();
    }

    /** left[0]: calls that may still be made in the body; left[1]: letters that it should not pass by much. */
    private void term(StringBuilder b, int[] left, int functions) {
        left[1]--;
        int kind = left[1] < 6 ? random.nextInt(9) : 4 + random.nextInt(20);
        if (kind < 4) {
            b.append((char) ('0' + random.nextInt(4)));
        } else if (kind < 6) {
            b.append('n');
        } else if (kind < 11) {
            b.append('x');
            if (left[1] < 6 || random.nextInt(3) > 0) {
                b.append(random.nextInt(5) == 0 ? 'n' : (char) ('0' + random.nextInt(10)));
                left[1]--;
            } else {
                term(b, left, functions);
            }
        } else if (kind < 17 && left[0] > 0) {
            left[0]--;
            left[1]--;
            b.append('f').append((char) ('0' + random.nextInt(random.nextInt(8) == 0 ? 5 : functions)));
            term(b, left, functions);
        } else if (kind < 20) {
            b.append('?');
            term(b, left, functions);
            term(b, left, functions);
            term(b, left, functions);
        } else {
            b.append("+-*<+-".charAt(random.nextInt(6)));
            term(b, left, functions);
            term(b, left, functions);
        }
    }

    private String brokenText() {
        StringBuilder b = new StringBuilder(properText());
        String letters = "0123456789nxf+-*<?d; \u00ff\t";
        int changes = 1 + random.nextInt(2);
        for (int i = 0; i < changes && b.length() > 0; i++) {
            int place = random.nextInt(b.length());
            char letter = letters.charAt(random.nextInt(letters.length()));
            switch (random.nextInt(4)) {
                case 0: b.setCharAt(place, letter); break;
                case 1: b.insert(place, letter); break;
                case 2: b.deleteCharAt(place); break;
                default: b.setLength(place); break;
            }
        }
        if (b.length() > LETTERS) {
            b.setLength(LETTERS);
        }
        return b.toString();
    }

    // ---- deeds and questions

    /** Mostly a number near the bounds given, now and then one far out of them. */
    private int number(int bound) {
        int[] edges = {-1, 0, bound - 1, bound, bound + 1, Integer.MAX_VALUE, Integer.MIN_VALUE};
        return random.nextInt(12) == 0 ? edges[random.nextInt(edges.length)] : random.nextInt(bound);
    }

    private int smallNumber() {
        return random.nextInt(3) == 0 ? number(997) : random.nextInt(6);
    }

    private boolean deed() {
        int a = number(8);
        int v = smallNumber();
        int f = random.nextInt(5) == 0 ? number(5) : 0;
        switch (random.nextInt(24)) {
            case 0: return same("aim(" + f + ", " + v + ")", x.aim(f, v), m.aim(f, v));
            case 1: {
                int n = number(12) + random.nextInt(2);
                return same("drift(" + n + ")", x.drift(n), m.drift(n));
            }
            case 2: {
                int n = random.nextInt(4) == 0 ? number(16) + random.nextInt(2) : 1 + random.nextInt(4);
                return same("undo(" + n + ")", x.undo(n), m.undo(n));
            }
            case 3:
            case 4: return writeEntry(number(5), v);
            case 5: return random.nextInt(12) > 0 || same("tear()", x.tear(), m.tear());
            case 6: {
                int s = random.nextInt(3) == 0 ? number(1000) : random.nextInt();
                return same("seed(" + s + ")", x.seed(s), m.seed(s));
            }
            case 7: {
                int i = number(2);
                return same("keep(" + i + ")", x.keep(i), m.keep(i));
            }
            case 8: {
                int i = number(2);
                return same("goBack(" + i + ")", x.goBack(i), m.goBack(i));
            }
            case 9:
            case 10:
            case 11:
            case 12:
            case 13:
            case 14: return same("set(" + a + ", " + v + ")", x.set(a, v), m.set(a, v));
            default: return bringAndLook();
        }
    }

    /** Half of the entries are true as they are written, so that WRONG is not always the first. */
    private boolean writeEntry(int f, int argument) {
        int v = random.nextInt(6) - 1;
        if (random.nextInt(2) == 0 && f == m.told(13)) {
            argument = m.told(14);
            v = m.told(4);
        }
        return same("write(" + f + ", " + argument + ", " + v + ")", x.write(f, argument, v), m.write(f, argument, v));
    }

    private boolean bringAndLook() {
        boolean alike = same("bring()", x.bring(), m.bring());
        for (int what = 5; what < 10 && alike; what++) {
            alike = same("told(" + what + ")", x.told(what), m.told(what));
        }
        return alike;
    }

    private boolean ask() {
        switch (random.nextInt(12)) {
            case 0: {
                int i = number(8);
                return same("cell(" + i + ")", x.cell(i), m.cell(i));
            }
            case 1: {
                int name = random.nextInt(3) == 0 ? number(50) : random.nextInt(Math.max(1, m.told(9)));
                return same("find(" + name + ")", x.find(name), m.find(name));
            }
            case 2:
            case 3:
            case 4:
            case 5: {
                int what = number(18);
                return same("told(" + what + ")", x.told(what), m.told(what));
            }
            case 6: return same("fault()", x.fault(), m.fault());
            default: {
                int k = number(m.told(3));
                int what = number(11);
                return same("call(" + k + ", " + what + ")", x.call(k, what), m.call(k, what));
            }
        }
    }
}
