/** The boundaries that promises 16 to 18 name: seed, keep, goBack. */
public final class ImagesBoundaryTest {
    private static final int LEAST = Integer.MIN_VALUE;
    private static final int GREATEST = Integer.MAX_VALUE;

    private static final Checks checks = new Checks();

    public static void main(String[] args) {
        Boundaries.run(ImagesBoundaryTest.class, checks);
        checks.finish();
    }

    // ---- 16: seed

    @Sentence(in = "Promise 16", says = "THE SEED becomes v (0 .. 2147483647): what it was.")
    static void seedLeast() {
        TakenUpCalls x = new TakenUpCalls();
        x.seed(5);
        checks.due("seed(0)", x.seed(0), 5);
        checks.due("what it was", x.seed(1), 0);
    }

    @Sentence(in = "Promise 16", says = "THE SEED becomes v (0 .. 2147483647): what it was.")
    static void seedGreatest() {
        TakenUpCalls x = new TakenUpCalls();
        checks.due("seed(2147483647)", x.seed(2147483647), 0);
        checks.due("what it was", x.seed(0), 2147483647);
    }

    @Sentence(in = "Promise 16", says = "THE SEED becomes v (0 .. 2147483647): what it was.")
    static void seedBehindADrift() {
        TakenUpCalls x = new TakenUpCalls();
        int drifted = x.drift(1);
        checks.due("what it was", x.seed(0), drifted);
    }

    @Sentence(in = "Promise 16", says = "THE SEED becomes v (0 .. 2147483647): what it was.")
    static void seedIsNoDeed() {
        TakenUpCalls x = new TakenUpCalls();
        x.seed(5);
        checks.due("deeds", x.told(17), 0);
    }

    @Sentence(in = "Promise 16", says = "what it was. OUTSIDE.")
    static void seedBelowTheLeast() {
        TakenUpCalls x = new TakenUpCalls();
        x.seed(5);
        checks.due("seed(-1)", x.seed(-1), Checks.OUTSIDE);
        checks.due("seed(least)", x.seed(LEAST), Checks.OUTSIDE);
        checks.due("what it was", x.seed(0), 5);
    }

    // ---- 17: keep

    @Sentence(in = "Promise 17", says = "IMAGE i becomes what is so (nothing can be undone then): 1.")
    static void keepTheFirst() {
        TakenUpCalls x = new TakenUpCalls();
        x.set(0, 5);
        checks.due("keep(0)", x.keep(0), 1);
        x.set(0, 6);
        checks.due("goBack(0)", x.goBack(0), 1);
        checks.due("cell(0)", x.cell(0), 5);
        checks.due("IMAGE 1 is not kept by it", x.goBack(1), Checks.NOT);
    }

    @Sentence(in = "Promise 17", says = "IMAGE i becomes what is so (nothing can be undone then): 1.")
    static void keepTheLast() {
        TakenUpCalls x = new TakenUpCalls();
        x.set(0, 5);
        checks.due("keep(1)", x.keep(1), 1);
        x.set(0, 6);
        checks.due("goBack(1)", x.goBack(1), 1);
        checks.due("cell(0)", x.cell(0), 5);
        checks.due("IMAGE 0 is not kept by it", x.goBack(0), Checks.NOT);
    }

    @Sentence(in = "Promise 17", says = "IMAGE i becomes what is so (nothing can be undone then): 1.")
    static void keepASecondTime() {
        TakenUpCalls x = new TakenUpCalls();
        x.set(0, 5);
        x.keep(0);
        x.set(0, 6);
        checks.due("keep(0) again", x.keep(0), 1);
        x.set(0, 7);
        x.goBack(0);
        checks.due("cell(0)", x.cell(0), 6);
    }

    @Sentence(in = "Promise 17", says = "IMAGE i becomes what is so (nothing can be undone then): 1.")
    static void keepLeavesTheOther() {
        TakenUpCalls x = new TakenUpCalls();
        x.set(0, 5);
        x.keep(0);
        x.set(0, 6);
        x.keep(1);
        x.goBack(0);
        checks.due("IMAGE 0", x.cell(0), 5);
        x.goBack(1);
        checks.due("IMAGE 1", x.cell(0), 6);
    }

    @Sentence(in = "Promise 17", says = "IMAGE i becomes what is so (nothing can be undone then): 1.")
    static void keepChangesNothingOfWhatIsSo() {
        TakenUpCalls x = Checks.telling("dx0;dx0;");
        x.set(0, 5);
        x.aim(1, 6);
        x.seed(7);
        x.keep(0);
        checks.due("cell(0)", x.cell(0), 5);
        checks.dueTold("the AIM", x, 13, 1, 6);
        checks.due("THE SEED", x.seed(7), 7);
        checks.due("told(2)", x.told(2), 0);
    }

    @Sentence(in = "Promise 17", says = "(nothing can be undone then)")
    static void keepWithSixteenDeeds() {
        TakenUpCalls x = new TakenUpCalls();
        for (int v = 1; v <= 16; v++) {
            x.set(0, v);
        }
        x.keep(1);
        checks.due("deeds", x.told(17), 0);
        checks.due("undo(1)", x.undo(1), Checks.NOT);
        checks.due("undo(16)", x.undo(16), Checks.NOT);
    }

    @Sentence(in = "Promise 17", says = "(nothing can be undone then): 1. UNKNOWN.")
    static void keepBelowTheFirst() {
        TakenUpCalls x = new TakenUpCalls();
        checks.due("keep(-1)", x.keep(-1), Checks.UNKNOWN);
        checks.due("keep(least)", x.keep(LEAST), Checks.UNKNOWN);
    }

    @Sentence(in = "Promise 17", says = "(nothing can be undone then): 1. UNKNOWN.")
    static void keepBehindTheLast() {
        TakenUpCalls x = new TakenUpCalls();
        checks.due("keep(2)", x.keep(2), Checks.UNKNOWN);
        checks.due("keep(greatest)", x.keep(GREATEST), Checks.UNKNOWN);
    }

    @Sentence(in = "Promise 17", says = "(nothing can be undone then): 1. UNKNOWN.")
    static void keepRefusedForgetsNoDeeds() {
        TakenUpCalls x = new TakenUpCalls();
        x.set(0, 5);
        x.keep(2);
        checks.due("undo(1)", x.undo(1), 0);
    }

    // ---- 18: goBack

    @Sentence(in = "Promise 18", says = "What is so becomes IMAGE i (nothing can be undone then): 1.")
    static void goBackTwice() {
        TakenUpCalls x = new TakenUpCalls();
        x.set(0, 5);
        x.keep(0);
        for (int v = 6; v < 9; v++) {
            x.set(0, v);
            checks.due("goBack(0)", x.goBack(0), 1);
            checks.due("cell(0)", x.cell(0), 5);
        }
    }

    @Sentence(in = "Promise 18", says = "What is so becomes IMAGE i (nothing can be undone then): 1.")
    static void goBackAtOnce() {
        TakenUpCalls x = new TakenUpCalls();
        x.keep(1);
        String ahead = Boundaries.all(x);
        checks.due("goBack(1)", x.goBack(1), 1);
        checks.dueTrue("all is as it was", ahead.equals(Boundaries.all(x)));
    }

    @Sentence(in = "Promise 18", says = "What is so becomes IMAGE i (nothing can be undone then): 1.")
    static void goBackLeavesTheTraceTillBring() {
        TakenUpCalls x = Checks.telling("dx0;d+nx0;");
        x.set(0, 5);
        x.aim(1, 7);
        x.keep(0);
        x.aim(0, 0);
        x.set(0, 6);
        x.bring();
        x.goBack(0);
        checks.due("told(2)", x.told(2), 6);
        checks.due("ROOT's FUNCTION", x.call(0, 0), 0);
        checks.due("FRESH", x.told(4), 12);
        checks.due("bring()", x.bring(), 12);
        checks.dueTold("ROOT is of another AIM", x, 6, 1, 0, 1);
    }

    @Sentence(in = "Promise 18", says = "(nothing can be undone then)")
    static void goBackWithSixteenDeeds() {
        TakenUpCalls x = new TakenUpCalls();
        x.keep(0);
        for (int v = 1; v <= 16; v++) {
            x.set(0, v);
        }
        x.goBack(0);
        checks.due("deeds", x.told(17), 0);
        checks.due("undo(1)", x.undo(1), Checks.NOT);
    }

    @Sentence(in = "Promise 18", says = "UNKNOWN, NOT: it was not kept; the FUNCTION of its AIM is not told now.")
    static void goBackBelowTheFirst() {
        TakenUpCalls x = new TakenUpCalls();
        x.keep(0);
        checks.due("goBack(-1)", x.goBack(-1), Checks.UNKNOWN);
        checks.due("goBack(least)", x.goBack(LEAST), Checks.UNKNOWN);
    }

    @Sentence(in = "Promise 18", says = "UNKNOWN, NOT: it was not kept; the FUNCTION of its AIM is not told now.")
    static void goBackBehindTheLast() {
        TakenUpCalls x = new TakenUpCalls();
        x.keep(1);
        checks.due("goBack(2)", x.goBack(2), Checks.UNKNOWN);
        checks.due("goBack(greatest)", x.goBack(GREATEST), Checks.UNKNOWN);
    }

    @Sentence(in = "Promise 18", says = "NOT: it was not kept;")
    static void goBackToTheFirstNeverKept() {
        TakenUpCalls x = new TakenUpCalls();
        x.keep(1);
        x.set(0, 5);
        checks.due("goBack(0)", x.goBack(0), Checks.NOT);
        checks.due("cell(0)", x.cell(0), 5);
        checks.due("deeds", x.told(17), 1);
    }

    @Sentence(in = "Promise 18", says = "NOT: it was not kept;")
    static void goBackToTheLastNeverKept() {
        TakenUpCalls x = new TakenUpCalls();
        x.keep(0);
        x.set(0, 5);
        checks.due("goBack(1)", x.goBack(1), Checks.NOT);
        checks.due("cell(0)", x.cell(0), 5);
        checks.due("deeds", x.told(17), 1);
    }

    @Sentence(in = "Promise 18", says = "the FUNCTION of its AIM is not told now.")
    static void goBackToAFunctionNotToldNow() {
        TakenUpCalls x = Checks.telling("dn;dn;");
        x.set(0, 5);
        x.aim(1, 0);
        x.keep(0);
        Checks.tell(x, "dn;");
        x.set(0, 6);
        checks.due("goBack(0)", x.goBack(0), Checks.NOT);
        checks.due("cell(0)", x.cell(0), 6);
        checks.due("deeds", x.told(17), 1);
    }

    @Sentence(in = "Promise 18", says = "the FUNCTION of its AIM is not told now.")
    static void goBackToAFunctionToldAgain() {
        TakenUpCalls x = Checks.telling("dn;dn;");
        x.set(0, 5);
        x.aim(1, 7);
        x.keep(0);
        Checks.tell(x, "dn;");
        x.set(0, 6);
        Checks.tell(x, "dn;d*nx0;");
        checks.due("goBack(0)", x.goBack(0), 1);
        checks.dueTold("the AIM", x, 13, 1, 7);
        checks.due("bring()", x.bring(), 35);
    }

    @Sentence(in = "Promise 18", says = "the FUNCTION of its AIM is not told now.")
    static void goBackToTheLastToldFunction() {
        TakenUpCalls x = Checks.telling("dn;dn;dn;dn;dn;");
        x.aim(3, 0);
        x.keep(0);
        x.aim(4, 0);
        x.keep(1);
        Checks.tell(x, "dn;dn;dn;dn;");
        checks.due("goBack(0), to the last told", x.goBack(0), 1);
        checks.due("goBack(1), to the one behind it", x.goBack(1), Checks.NOT);
    }

    @Sentence(in = "Promise 18", says = "the FUNCTION of its AIM is not told now.")
    static void goBackToFunction0WhateverIsTold() {
        TakenUpCalls x = Checks.telling("dn;dn;");
        x.aim(0, 996);
        x.keep(0);
        Checks.tell(x, "d3;");
        checks.due("goBack(0)", x.goBack(0), 1);
        checks.dueTold("the AIM", x, 13, 0, 996);
    }
}
