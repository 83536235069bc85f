/** Promises 5 (told), 6 (cell), 7 (call) and 8 (find): what is asked, and that nothing changes by it. */
public final class AskingTest {
    private static final Checks checks = new Checks();

    public static void main(String[] args) {
        toldBounds();
        toldAll();
        freshAndAlike();
        alikeLooksAtAllOfIt();
        alikeDoesNotLookAtReads();
        cells();
        calls();
        callRefusals();
        finds();
        askingChangesNothing();
        checks.finish();
    }

    private static void toldBounds() {
        TakenUpCalls x = new TakenUpCalls();
        checks.due("told(-1)", x.told(-1), Checks.OUTSIDE);
        checks.due("told(18)", x.told(18), Checks.OUTSIDE);
        checks.due("told(least)", x.told(Integer.MIN_VALUE), Checks.OUTSIDE);
        checks.due("told(greatest)", x.told(Integer.MAX_VALUE), Checks.OUTSIDE);
    }

    private static void toldAll() {
        TakenUpCalls x = Checks.telling("d+f1x0f2x1;d+f2nx3;dx+4n;");
        checks.dueTold("told", x, 0, 3, 0, 0, 4, 0, 1, 0, 0, 0, 4, 3, 0, 27, 0, 0, 0, -1, 0);
        x.feed('d');
        x.set(0, 1);
        x.set(4, 50);
        x.write(2, 1, 0);
        x.write(2, 0, 0);
        checks.dueTold("set", x, 0, 3, 1, 0, 4, 50, 0, 0, 0, 0, 4, 3, 3, 27, 0, 0, 2, 1, 2);
        checks.due("brought", x.bring(), 50);
        checks.dueTold("brought", x, 0, 3, 1, 50, 4, 50, 1, 2, 2, 2, 6, 3, 0, 59, 0, 0, 2, 1, 2);
        x.aim(2, 996);
        checks.dueTold("aimed", x, 0, 3, 1, 50, 4, 0, 0, 2, 2, 2, 6, 3, 0, 59, 2, 996, 2, 1, 3);
        checks.due("brought there", x.bring(), 0);
        checks.dueTold("brought there", x, 0, 3, 1, 0, 1, 0, 1, 1, 0, 4, 7, 1, 0, 8, 2, 996, 2, 1, 3);
    }

    private static void freshAndAlike() {
        TakenUpCalls x = Checks.telling("d?x0f1nf2n;d7;d7;");
        checks.due("alike at first", x.told(5), 1);
        x.set(0, 1);
        checks.due("the same telling", x.told(4), 7);
        checks.due("but by another function", x.told(5), 0);
        x.bring();
        checks.due("alike then", x.told(5), 1);
        x.aim(0, 1);
        checks.due("another argument", x.told(5), 0);
        x.aim(1, 0);
        checks.due("another function", x.told(5), 0);
        x.undo(2);
        checks.due("aimed as ahead", x.told(5), 1);
    }

    private static void alikeLooksAtAllOfIt() {
        TakenUpCalls x = Checks.telling("d*0f1x0;d?x12+f2nf2n;d+nx2;");
        x.set(2, 1);
        checks.due("a telling deep inside", x.told(5), 0);
        checks.due("a telling deep inside, fresh", x.told(4), 0);
        x.bring();
        checks.due("a telling deep inside, brought", x.told(5), 1);
        x.set(0, 4);
        checks.due("an argument", x.told(5), 0);
        x.bring();
        x.set(1, 1);
        checks.due("fewer parts would be, and the same is told by the root", x.told(5), 0);
        x.bring();
        checks.due("fewer parts", x.told(3), 2);
        x.set(1, 0);
        checks.due("more parts would be", x.told(5), 0);
        x = new TakenUpCalls();
        x.set(1, 1);
        Checks.tell(x, "d+f1x0f1x1;d5;");
        x.set(0, 1);
        x.set(1, 0);
        checks.due("the order of parts", x.told(5), 0);
        x = Checks.telling("d*0f1x0;d0;");
        x.set(0, 1);
        checks.due("an argument alone", x.told(5), 0);
        x = Checks.telling("d?x000;");
        x.set(0, 1);
        checks.due("old, yet alike", x.told(5), 1);
        checks.due("old, yet alike: old", x.told(11), 1);
    }

    /** ALIKE names functions, arguments, tellings and parts: what was read is none of them. */
    private static void alikeDoesNotLookAtReads() {
        TakenUpCalls x = Checks.telling("d*0?x0x1x2;");
        x.set(0, 1);
        checks.due("other reads", x.told(5), 1);
        checks.due("bears", x.told(12), 5);
        x.bring();
        checks.due("bears then", x.told(12), 3);
    }

    private static void cells() {
        TakenUpCalls x = new TakenUpCalls();
        for (int i = 0; i < 8; i++) {
            x.set(i, 990 - i);
        }
        for (int i = 0; i < 8; i++) {
            checks.due("cell(" + i + ")", x.cell(i), 990 - i);
        }
        checks.due("cell(-1)", x.cell(-1), Checks.UNKNOWN);
        checks.due("cell(8)", x.cell(8), Checks.UNKNOWN);
        checks.due("cell(least)", x.cell(Integer.MIN_VALUE), Checks.UNKNOWN);
        checks.due("cell(greatest)", x.cell(Integer.MAX_VALUE), Checks.UNKNOWN);
    }

    private static void calls() {
        TakenUpCalls x = new TakenUpCalls();
        x.set(0, 8);
        x.set(1, 9);
        Checks.tell(x, "d+f1x0f2x1;d+f2nf2+n1;d+x7n;");
        checks.dueCall("calls", x, 0, 0, 0, 26, 0, 1, -1, 1, 3, 2, 5, 0);
        checks.dueCall("calls", x, 1, 1, 8, 17, 1, 1, 0, 2, 0, 2, 3, 0);
        checks.dueCall("calls", x, 2, 2, 8, 8, 2, 1, 1, 3, 128, 0, 1, 0);
        checks.dueCall("calls", x, 3, 2, 9, 9, 3, 1, 1, 3, 128, 0, 1, 0);
        checks.dueCall("calls", x, 4, 2, 9, 9, 4, 1, 0, 2, 128, 0, 1, 0);
        x.set(7, 1);
        for (int k = 0; k < 5; k++) {
            checks.due("old " + k, x.call(k, 10), k >= 2 ? 1 : 0);
        }
        x.set(0, 9);
        checks.due("root old", x.call(0, 10), 1);
        x.bring();
        checks.dueCall("calls brought", x, 0, 0, 0, 31, 0, 2, -1, 1, 3, 2, 5, 0);
        checks.dueCall("calls brought", x, 1, 1, 9, 21, 5, 1, 0, 2, 0, 2, 3, 0);
        checks.dueCall("calls brought", x, 2, 2, 9, 10, 6, 1, 1, 3, 128, 0, 1, 0);
        checks.dueCall("calls brought", x, 3, 2, 10, 11, 7, 1, 1, 3, 128, 0, 1, 0);
        checks.dueCall("calls brought", x, 4, 2, 9, 10, 4, 2, 0, 2, 128, 0, 1, 0);
    }

    private static void callRefusals() {
        TakenUpCalls x = Checks.telling("df10;d0;");
        checks.due("call(0, -1)", x.call(0, -1), Checks.OUTSIDE);
        checks.due("call(0, 11)", x.call(0, 11), Checks.OUTSIDE);
        checks.due("call(1, greatest)", x.call(1, Integer.MAX_VALUE), Checks.OUTSIDE);
        checks.due("call(2, 0)", x.call(2, 0), Checks.UNKNOWN);
        checks.due("call(-1, 0)", x.call(-1, 0), Checks.UNKNOWN);
        checks.due("call(2, 11)", x.call(2, 11), Checks.UNKNOWN);
        checks.due("call(-1, -1)", x.call(-1, -1), Checks.UNKNOWN);
        checks.due("call(least, 0)", x.call(Integer.MIN_VALUE, 0), Checks.UNKNOWN);
        checks.due("call(greatest, 0)", x.call(Integer.MAX_VALUE, 0), Checks.UNKNOWN);
    }

    private static void finds() {
        TakenUpCalls x = Checks.telling("d+f1x0f1x1;dn;");
        checks.due("find(2)", x.find(2), 2);
        checks.due("find(3)", x.find(3), Checks.NONE);
        checks.due("find(-1)", x.find(-1), Checks.NONE);
        checks.due("find(least)", x.find(Integer.MIN_VALUE), Checks.NONE);
        checks.due("find(greatest)", x.find(Integer.MAX_VALUE), Checks.NONE);
        x.set(0, 1);
        x.bring();
        checks.due("find(1) then, the first of two alike is taken up", x.find(1), 2);
        checks.due("find(2) then", x.find(2), Checks.NONE);
        checks.due("find(3) then", x.find(3), 1);
        checks.due("find(4) then", x.find(4), Checks.NONE);
    }

    private static void askingChangesNothing() {
        TakenUpCalls x = Checks.telling("d+f1x0f1x1;d+nx2;");
        x.set(0, 4);
        x.set(2, 3);
        x.bring();
        x.set(2, 5);
        x.write(0, 0, 14);
        x.write(1, 9, 14);
        int[] first = new int[18];
        for (int what = 0; what < 18; what++) {
            first[what] = x.told(what);
        }
        for (int what = 17; what >= 0; what--) {
            checks.due("asked again: told(" + what + ")", x.told(what), first[what]);
        }
        checks.due("asked: made goes on from there", x.told(9), 4);
        checks.due("asked: bring()", x.bring(), 14);
        checks.dueTold("asked: bring()", x, 6, 0, 3, 0, 4);
    }
}
