/** Promises 9 (set), 10 (aim), 12 (drift) and 13 (undo). */
public final class DeedsTest {
    private static final Checks checks = new Checks();

    public static void main(String[] args) {
        sets();
        setRefusals();
        aims();
        aimRefusals();
        drifts();
        driftRefusals();
        undoneInOrder();
        undoRefusals();
        sixteenAreKept();
        whatChangedNothingIsUndone();
        refusedIsNotUndone();
        undoLeavesTraceAndSeed();
        forgotten();
        checks.finish();
    }

    private static void sets() {
        TakenUpCalls x = new TakenUpCalls();
        checks.due("set(0, 996)", x.set(0, 996), 0);
        checks.due("set(0, 1)", x.set(0, 1), 996);
        checks.due("set(0, 0)", x.set(0, 0), 1);
        checks.due("set(7, 5)", x.set(7, 5), 0);
        checks.due("cell(7)", x.cell(7), 5);
        checks.due("the other cells stay", x.cell(6), 0);
    }

    private static void setRefusals() {
        TakenUpCalls x = new TakenUpCalls();
        checks.due("set(8, 0)", x.set(8, 0), Checks.UNKNOWN);
        checks.due("set(-1, 0)", x.set(-1, 0), Checks.UNKNOWN);
        checks.due("set(8, 997)", x.set(8, 997), Checks.UNKNOWN);
        checks.due("set(least, -1)", x.set(Integer.MIN_VALUE, -1), Checks.UNKNOWN);
        checks.due("set(0, 997)", x.set(0, 997), Checks.OUTSIDE);
        checks.due("set(0, -1)", x.set(0, -1), Checks.OUTSIDE);
        checks.due("set(0, greatest)", x.set(0, Integer.MAX_VALUE), Checks.OUTSIDE);
        checks.due("nothing set", x.cell(0), 0);
        checks.due("nothing to undo", x.told(17), 0);
    }

    private static void aims() {
        TakenUpCalls x = Checks.telling("dn;d+n1;");
        checks.due("aim(0, 0)", x.aim(0, 0), 0);
        checks.due("aim(0, 996)", x.aim(0, 996), 1);
        checks.due("aim(0, 996) again", x.aim(0, 996), 0);
        checks.due("aim(1, 996)", x.aim(1, 996), 1);
        checks.dueTold("aim", x, 13, 1, 996);
        checks.due("root is as it was", x.told(2), 0);
        checks.due("bring()", x.bring(), 0);
        checks.due("root's function", x.call(0, 0), 1);
        checks.due("root's argument", x.call(0, 1), 996);
    }

    private static void aimRefusals() {
        TakenUpCalls x = Checks.telling("dn;d+n1;");
        x.aim(1, 5);
        checks.due("aim(2, 0)", x.aim(2, 0), Checks.UNKNOWN);
        checks.due("aim(-1, 0)", x.aim(-1, 0), Checks.UNKNOWN);
        checks.due("aim(2, 997)", x.aim(2, 997), Checks.UNKNOWN);
        checks.due("aim(1, 997)", x.aim(1, 997), Checks.OUTSIDE);
        checks.due("aim(1, -1)", x.aim(1, -1), Checks.OUTSIDE);
        checks.dueTold("aim refused", x, 13, 1, 5);
        checks.due("aim refused: to undo", x.told(17), 1);
    }

    private static void drifts() {
        TakenUpCalls x = new TakenUpCalls();
        long seed = 0;
        int[] cells = new int[8];
        for (int n = 1; n <= 12; n += n == 1 ? 4 : 7) {
            for (int k = 0; k < n; k++) {
                seed = (seed * 1103515245L + 12345L) % (1L << 31);
                int i = (int) (seed / 65536 % 8);
                seed = (seed * 1103515245L + 12345L) % (1L << 31);
                cells[i] = (int) (seed / 65536 % 10);
            }
            checks.due("drift(" + n + ")", x.drift(n), seed);
            for (int i = 0; i < 8; i++) {
                checks.due("drift(" + n + "): cell(" + i + ")", x.cell(i), cells[i]);
            }
        }
        checks.due("sixteen of eighteen can be undone", x.told(17), 16);
        x = new TakenUpCalls();
        checks.due("the first seed", x.drift(1), 1406932606);
        x.seed(2147483647);
        checks.due("from the greatest seed", x.drift(1), ((2147483647L * 1103515245L + 12345L) % (1L << 31) * 1103515245L + 12345L) % (1L << 31));
    }

    private static void driftRefusals() {
        TakenUpCalls x = new TakenUpCalls();
        checks.due("drift(0)", x.drift(0), Checks.OUTSIDE);
        checks.due("drift(13)", x.drift(13), Checks.OUTSIDE);
        checks.due("drift(-1)", x.drift(-1), Checks.OUTSIDE);
        checks.due("drift(greatest)", x.drift(Integer.MAX_VALUE), Checks.OUTSIDE);
        checks.due("the seed stays", x.seed(0), 0);
        checks.due("drift refused: to undo", x.told(17), 0);
    }

    private static void undoneInOrder() {
        TakenUpCalls x = Checks.telling("dn;dn;");
        x.set(0, 1);
        x.set(0, 2);
        x.aim(1, 7);
        x.set(1, 3);
        x.aim(0, 9);
        checks.due("undo(1)", x.undo(1), 4);
        checks.dueTold("undo(1)", x, 13, 1, 7);
        checks.due("undo(3)", x.undo(3), 1);
        checks.dueTold("undo(3)", x, 13, 0, 0);
        checks.due("undo(3): cell(0)", x.cell(0), 1);
        checks.due("undo(3): cell(1)", x.cell(1), 0);
        x.set(0, 5);
        checks.due("deeds after it", x.told(17), 2);
        checks.due("undo(2)", x.undo(2), 0);
        checks.due("undo(2): cell(0)", x.cell(0), 0);
    }

    private static void undoRefusals() {
        TakenUpCalls x = new TakenUpCalls();
        x.set(0, 1);
        checks.due("undo(0)", x.undo(0), Checks.OUTSIDE);
        checks.due("undo(-1)", x.undo(-1), Checks.OUTSIDE);
        checks.due("undo(17)", x.undo(17), Checks.OUTSIDE);
        checks.due("undo(greatest)", x.undo(Integer.MAX_VALUE), Checks.OUTSIDE);
        checks.due("undo(2)", x.undo(2), Checks.NOT);
        checks.due("undo(16)", x.undo(16), Checks.NOT);
        checks.due("nothing undone", x.cell(0), 1);
        checks.due("undo(1)", x.undo(1), 0);
        checks.due("undo(1) more", x.undo(1), Checks.NOT);
        checks.due("undo is no deed", x.told(17), 0);
    }

    private static void sixteenAreKept() {
        TakenUpCalls x = new TakenUpCalls();
        for (int v = 1; v <= 40; v++) {
            x.set(0, v);
            checks.due("kept after " + v, x.told(17), Math.min(v, 16));
        }
        checks.due("undo(16)", x.undo(16), 0);
        checks.due("cell(0) then", x.cell(0), 24);
        checks.due("undo(1)", x.undo(1), Checks.NOT);
        x.drift(12);
        x.set(1, 900);
        checks.due("each draw is a deed", x.told(17), 13);
        x.drift(5);
        checks.due("sixteen", x.told(17), 16);
        checks.due("undo(5)", x.undo(5), 11);
        checks.due("cell(1)", x.cell(1), 900);
        x.undo(1);
        checks.dueTrue("cell(1) is as ahead of it", x.cell(1) != 900);
    }

    private static void whatChangedNothingIsUndone() {
        TakenUpCalls x = new TakenUpCalls();
        x.set(0, 5);
        x.set(0, 5);
        x.aim(0, 0);
        checks.due("deeds that changed nothing", x.told(17), 3);
        x.undo(2);
        checks.due("cell(0)", x.cell(0), 5);
        x.undo(1);
        checks.due("cell(0) then", x.cell(0), 0);
    }

    private static void refusedIsNotUndone() {
        TakenUpCalls x = new TakenUpCalls();
        x.set(0, 5);
        x.set(9, 5);
        x.set(1, 1000);
        x.aim(3, 0);
        x.aim(0, 1000);
        x.drift(0);
        x.undo(5);
        x.bring();
        x.seed(4);
        x.write(0, 0, 0);
        checks.due("one deed", x.told(17), 1);
        x.undo(1);
        checks.due("one deed: cell(0)", x.cell(0), 0);
    }

    private static void undoLeavesTraceAndSeed() {
        TakenUpCalls x = Checks.telling("d+f1x0n;dx1;");
        x.drift(6);
        int seed = x.seed(0);
        x.seed(seed);
        x.set(1, 77);
        x.set(0, 3);
        x.bring();
        int made = x.told(9);
        x.undo(8);
        checks.due("the root is as brought", x.told(2), 77);
        checks.due("made ever stays", x.told(9), made);
        checks.due("the seed stays", x.seed(0), seed);
        checks.due("cells are as at first", x.cell(0) + x.cell(1), 0);
        checks.due("fresh", x.told(4), 0);
        checks.due("bring()", x.bring(), 0);
    }

    private static void forgotten() {
        TakenUpCalls x = new TakenUpCalls();
        x.set(0, 5);
        checks.due("faulty text", x.functions(), -11);
        checks.due("a faulty text forgets nothing", x.told(17), 1);
        Checks.tell(x, "d1;");
        checks.due("functions told", x.told(17), 0);
        x.set(0, 6);
        x.keep(2);
        x.goBack(0);
        checks.due("refused images forget nothing", x.told(17), 1);
        x.keep(0);
        checks.due("kept", x.told(17), 0);
        x.set(0, 7);
        x.goBack(0);
        checks.due("gone back", x.told(17), 0);
        x.set(0, 8);
        checks.due("undo(1)", x.undo(1), 0);
        checks.due("cell(0)", x.cell(0), 6);
    }
}
