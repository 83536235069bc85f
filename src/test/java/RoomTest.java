import java.lang.management.ManagementFactory;

/**
 * The room that one run takes: what the dearest runs make is measured, and calls with any arguments
 * are made in many states, so that one that throws is seen.
 */
public final class RoomTest {
    private static final int CALLS_OF_A_RUN = 512;
    /** Far below 600,000 objects of some 16 bytes and 7.3 million elements of 4. */
    private static final long BYTES_OF_A_RUN = 1_000_000;

    private static final Checks checks = new Checks();
    private static long answers;

    public static void main(String[] args) {
        dearest("bring()", "d+f0x0+f0x0f0x0;", RoomTest::setAndBring);
        dearest("told(5)", "d+f0x0+f0x0f0x0;", (x, k) -> x.told(5));
        dearest("told(16)", "d+f0n+f0nf0n;", RoomTest::writeAndJudge);
        dearest("functions()", "d+f0n+f0nf0n;", RoomTest::feedOrTell);
        dearest("keep()", "d0;", (x, k) -> x.keep(k % 2));
        anyArguments();
        checks.finish();
    }

    private interface Step {
        int take(TakenUpCalls x, int k);
    }

    private static int setAndBring(TakenUpCalls x, int k) {
        return k % 2 == 0 ? x.set(0, k / 2 % 997) : x.bring();
    }

    private static int writeAndJudge(TakenUpCalls x, int k) {
        return k < 20 ? x.write(0, k, 0) : x.told(16);
    }

    private static int feedOrTell(TakenUpCalls x, int k) {
        String text = "d+f0n+f0nf0n;";
        return k % (text.length() + 1) == text.length() ? x.functions() : x.feed(text.charAt(k % (text.length() + 1)));
    }

    private static void dearest(String what, String text, Step step) {
        run(text, step);
        long ahead = allocated();
        run(text, step);
        long taken = allocated() - ahead;
        System.out.println(what + ": " + taken + " bytes");
        checks.dueTrue(what + " takes " + taken + " bytes", taken < BYTES_OF_A_RUN);
    }

    private static void run(String text, Step step) {
        TakenUpCalls x = Checks.telling(text);
        for (int k = 0; k < CALLS_OF_A_RUN; k++) {
            answers += step.take(x, k);
        }
    }

    private static long allocated() {
        return ((com.sun.management.ThreadMXBean) ManagementFactory.getThreadMXBean()).getThreadAllocatedBytes(Thread.currentThread().getId());
    }

    private static void anyArguments() {
        int[] edges = {Integer.MIN_VALUE, -1000000004, -1000000001, -2, -1, 0, 1, 2, 7, 8, 12, 16, 20, 160, 255, 256, 363, 364, 996, 997, Integer.MAX_VALUE};
        for (String text : new String[] {"", "d0;", "d+f0x0+f0x1f0x2;", "d?f1nf2x0f3n;d*nf2+n1;dx+nx3;d<f1nf4n;d5;"}) {
            for (int a : edges) {
                TakenUpCalls x = new TakenUpCalls();
                Checks.tell(x, text);
                for (int b : edges) {
                    callAll(x, a, b);
                }
                checks.dueTrue("alike after " + a, x.told(5) == 1);
            }
        }
    }

    private static void callAll(TakenUpCalls x, int a, int b) {
        answers += x.feed(a) + x.told(a) + x.cell(a) + x.call(a, b) + x.find(a) + x.set(a, b) + x.aim(a, b) + x.drift(b)
            + x.write(a, b, a) + x.told(16) + x.undo(b) + x.seed(b) + x.keep(b) + x.goBack(a) + x.fault() + x.bring();
    }
}
