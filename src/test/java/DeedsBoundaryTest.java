/** The boundaries that promises 9 to 13 name: set, aim, bring, drift, undo. */
public final class DeedsBoundaryTest {
    private static final int LEAST = Integer.MIN_VALUE;
    private static final int GREATEST = Integer.MAX_VALUE;

    private static final Checks checks = new Checks();

    public static void main(String[] args) {
        Boundaries.run(DeedsBoundaryTest.class, checks);
        checks.finish();
    }

    // ---- 9: set

    @Sentence(in = "Promise 9", says = "A CELL holds v: what it held. UNKNOWN, OUTSIDE.")
    static void setTheFirstCell() {
        TakenUpCalls x = new TakenUpCalls();
        checks.due("set(0, 996)", x.set(0, 996), 0);
        checks.due("set(0, 1)", x.set(0, 1), 996);
        checks.due("cell(0)", x.cell(0), 1);
    }

    @Sentence(in = "Promise 9", says = "A CELL holds v: what it held. UNKNOWN, OUTSIDE.")
    static void setTheLastCell() {
        TakenUpCalls x = new TakenUpCalls();
        checks.due("set(7, 996)", x.set(7, 996), 0);
        checks.due("set(7, 0)", x.set(7, 0), 996);
        checks.due("cell(7)", x.cell(7), 0);
    }

    @Sentence(in = "Promise 9", says = "A CELL holds v: what it held. UNKNOWN, OUTSIDE.")
    static void setNoOtherCell() {
        TakenUpCalls x = new TakenUpCalls();
        x.set(3, 9);
        for (int i = 0; i < 8; i++) {
            checks.due("cell(" + i + ")", x.cell(i), i == 3 ? 9 : 0);
        }
    }

    @Sentence(in = "Promise 9", says = "A CELL holds v: what it held. UNKNOWN, OUTSIDE.")
    static void setWhatItHolds() {
        TakenUpCalls x = new TakenUpCalls();
        checks.due("set(0, 0)", x.set(0, 0), 0);
        x.set(0, 5);
        checks.due("set(0, 5)", x.set(0, 5), 5);
    }

    @Sentence(in = "Promise 9", says = "A CELL holds v: what it held. UNKNOWN, OUTSIDE.")
    static void setLeavesTheTraceTillBring() {
        TakenUpCalls x = Checks.telling("dx0;");
        x.set(0, 5);
        checks.due("told(2)", x.told(2), 0);
        checks.due("bring()", x.bring(), 5);
    }

    @Sentence(in = "Promise 9", says = "UNKNOWN, OUTSIDE.")
    static void setBelowTheFirstCell() {
        TakenUpCalls x = new TakenUpCalls();
        checks.due("set(-1, 0)", x.set(-1, 0), Checks.UNKNOWN);
        checks.due("set(least, 0)", x.set(LEAST, 0), Checks.UNKNOWN);
    }

    @Sentence(in = "Promise 9", says = "UNKNOWN, OUTSIDE.")
    static void setBehindTheLastCell() {
        TakenUpCalls x = new TakenUpCalls();
        checks.due("set(8, 0)", x.set(8, 0), Checks.UNKNOWN);
        checks.due("set(greatest, 0)", x.set(GREATEST, 0), Checks.UNKNOWN);
    }

    @Sentence(in = "Promise 9", says = "UNKNOWN, OUTSIDE.")
    static void setBelowTheLeastNumber() {
        TakenUpCalls x = new TakenUpCalls();
        checks.due("set(0, -1)", x.set(0, -1), Checks.OUTSIDE);
        checks.due("set(7, least)", x.set(7, LEAST), Checks.OUTSIDE);
    }

    @Sentence(in = "Promise 9", says = "UNKNOWN, OUTSIDE.")
    static void setAboveTheGreatestNumber() {
        TakenUpCalls x = new TakenUpCalls();
        checks.due("set(0, 997)", x.set(0, 997), Checks.OUTSIDE);
        checks.due("set(7, greatest)", x.set(7, GREATEST), Checks.OUTSIDE);
    }

    // ---- 10: aim

    @Sentence(in = "Promise 10", says = "The AIM: 1, if it is another, 0 if not.")
    static void aimAnotherFunction() {
        TakenUpCalls x = Checks.telling("dn;dn;");
        checks.due("aim(1, 0)", x.aim(1, 0), 1);
        checks.dueTold("aim(1, 0)", x, 13, 1, 0);
    }

    @Sentence(in = "Promise 10", says = "The AIM: 1, if it is another, 0 if not.")
    static void aimAnotherArgument() {
        TakenUpCalls x = Checks.telling("dn;dn;");
        checks.due("aim(0, 1)", x.aim(0, 1), 1);
        checks.dueTold("aim(0, 1)", x, 13, 0, 1);
    }

    @Sentence(in = "Promise 10", says = "The AIM: 1, if it is another, 0 if not.")
    static void aimTheSame() {
        TakenUpCalls x = Checks.telling("dn;dn;");
        checks.due("aim(0, 0)", x.aim(0, 0), 0);
        x.aim(1, 996);
        checks.due("aim(1, 996)", x.aim(1, 996), 0);
    }

    @Sentence(in = "Promise 10", says = "The AIM: 1, if it is another, 0 if not.")
    static void aimAnotherThanTheAimNotThanRoot() {
        TakenUpCalls x = Checks.telling("dn;dn;");
        x.aim(1, 5);
        checks.due("aim() of what ROOT is of", x.aim(0, 0), 1);
    }

    @Sentence(in = "Promise 10", says = "The AIM: 1, if it is another, 0 if not.")
    static void aimTheLastFunctionAndTheGreatestNumber() {
        TakenUpCalls x = Checks.telling("d0;d0;d0;d0;dn;");
        checks.due("aim(4, 996)", x.aim(4, 996), 1);
        checks.due("bring()", x.bring(), 996);
    }

    @Sentence(in = "Promise 10", says = "UNKNOWN (the FUNCTION is not told), OUTSIDE.")
    static void aimBelowTheFirstFunction() {
        TakenUpCalls x = Checks.telling("dn;dn;");
        checks.due("aim(-1, 0)", x.aim(-1, 0), Checks.UNKNOWN);
        checks.due("aim(least, 0)", x.aim(LEAST, 0), Checks.UNKNOWN);
    }

    @Sentence(in = "Promise 10", says = "UNKNOWN (the FUNCTION is not told), OUTSIDE.")
    static void aimBehindTheLastToldFunction() {
        TakenUpCalls x = Checks.telling("dn;dn;");
        checks.due("aim(2, 0)", x.aim(2, 0), Checks.UNKNOWN);
        checks.due("aim(4, 0)", x.aim(4, 0), Checks.UNKNOWN);
    }

    @Sentence(in = "Promise 10", says = "UNKNOWN (the FUNCTION is not told), OUTSIDE.")
    static void aimBehindTheFifthFunction() {
        TakenUpCalls x = Checks.telling("d0;d0;d0;d0;d0;");
        checks.due("aim(5, 0)", x.aim(5, 0), Checks.UNKNOWN);
        checks.due("aim(greatest, 0)", x.aim(GREATEST, 0), Checks.UNKNOWN);
    }

    @Sentence(in = "Promise 10", says = "UNKNOWN (the FUNCTION is not told), OUTSIDE.")
    static void aimAFunctionNotToldAnyMore() {
        TakenUpCalls x = Checks.telling("d0;d0;");
        checks.due("told", x.aim(1, 0), 1);
        Checks.tell(x, "d0;");
        checks.due("not told any more", x.aim(1, 0), Checks.UNKNOWN);
    }

    @Sentence(in = "Promise 10", says = "UNKNOWN (the FUNCTION is not told), OUTSIDE.")
    static void aimBelowTheLeastNumber() {
        TakenUpCalls x = new TakenUpCalls();
        checks.due("aim(0, -1)", x.aim(0, -1), Checks.OUTSIDE);
        checks.due("aim(0, least)", x.aim(0, LEAST), Checks.OUTSIDE);
    }

    @Sentence(in = "Promise 10", says = "UNKNOWN (the FUNCTION is not told), OUTSIDE.")
    static void aimAboveTheGreatestNumber() {
        TakenUpCalls x = new TakenUpCalls();
        checks.due("aim(0, 997)", x.aim(0, 997), Checks.OUTSIDE);
        checks.due("aim(0, greatest)", x.aim(0, GREATEST), Checks.OUTSIDE);
    }

    // ---- 11: bring

    @Sentence(in = "Promise 11", says = "What ROOT tells then.")
    static void bringOnANewObject() {
        TakenUpCalls x = new TakenUpCalls();
        checks.due("bring()", x.bring(), 0);
        checks.due("bring() again", x.bring(), 0);
    }

    @Sentence(in = "Promise 11", says = "What ROOT tells then.")
    static void bringTheLeastAndTheGreatest() {
        TakenUpCalls x = Checks.telling("dx0;");
        x.set(0, 996);
        checks.due("the greatest", x.bring(), 996);
        x.set(0, 0);
        checks.due("the least", x.bring(), 0);
    }

    @Sentence(in = "Promise 11", says = "What ROOT tells then.")
    static void bringIsNoDeed() {
        TakenUpCalls x = Checks.telling("dx0;");
        x.set(0, 5);
        x.bring();
        checks.due("deeds", x.told(17), 1);
    }

    @Sentence(in = "Promise 11", says = "What ROOT tells then.")
    static void bringAFullTraceManyTimes() {
        TakenUpCalls x = Checks.telling("d+*0x0+f0n+f0nf0n;");
        for (int v = 1; v <= 100; v++) {
            x.set(0, v);
            checks.due("bring() " + v, x.bring(), 0);
        }
        checks.due("DOINGS of the last", x.call(363, 4), 101);
        checks.due("NAME of the last", x.call(363, 3), 363);
    }

    @Sentence(in = "Promise 11", says = "What ROOT tells then.")
    static void bringAFullTraceMadeAnewManyTimes() {
        TakenUpCalls x = Checks.telling("d+f0x0+f0x0f0x0;");
        for (int v = 1; v <= 100; v++) {
            x.set(0, v);
            checks.due("bring() " + v, x.bring(), 0);
        }
        checks.due("MADE, ever", x.told(9), 364 + 100 * 363);
        checks.due("NAME of the last", x.call(363, 3), 363 + 100 * 363);
        checks.due("find() of it", x.find(363 + 100 * 363), 363);
    }

    // ---- 12: drift

    /** What THE SEED becomes by so many draws, told a second time. */
    private static int seedThen(long seed, int draws) {
        for (int k = 0; k < draws; k++) {
            seed = (seed * 1103515245L + 12345L) % (1L << 31);
        }
        return (int) seed;
    }

    @Sentence(in = "Promise 12", says = "n times BY DRAWS (1 .. 12): THE SEED. OUTSIDE.")
    static void driftOnce() {
        TakenUpCalls x = new TakenUpCalls();
        checks.due("drift(1)", x.drift(1), seedThen(0, 2));
        checks.due("deeds", x.told(17), 1);
        checks.due("THE SEED", x.seed(0), seedThen(0, 2));
    }

    @Sentence(in = "Promise 12", says = "n times BY DRAWS (1 .. 12): THE SEED. OUTSIDE.")
    static void driftTwelveTimes() {
        TakenUpCalls x = new TakenUpCalls();
        TakenUpCalls oneByOne = new TakenUpCalls();
        checks.due("drift(12)", x.drift(12), seedThen(0, 24));
        checks.due("deeds", x.told(17), 12);
        for (int k = 0; k < 12; k++) {
            oneByOne.drift(1);
        }
        checks.dueTrue("all is as by twelve times drift(1)", Boundaries.all(x).equals(Boundaries.all(oneByOne)));
    }

    @Sentence(in = "Promise 12", says = "n times BY DRAWS (1 .. 12): THE SEED. OUTSIDE.")
    static void driftFromTheGreatestSeed() {
        TakenUpCalls x = new TakenUpCalls();
        x.seed(GREATEST);
        checks.due("drift(12)", x.drift(12), seedThen(GREATEST, 24));
    }

    @Sentence(in = "Promise 12", says = "n times BY DRAWS (1 .. 12): THE SEED. OUTSIDE.")
    static void driftTooFewTimes() {
        TakenUpCalls x = new TakenUpCalls();
        checks.due("drift(0)", x.drift(0), Checks.OUTSIDE);
        checks.due("drift(-1)", x.drift(-1), Checks.OUTSIDE);
        checks.due("drift(least)", x.drift(LEAST), Checks.OUTSIDE);
        checks.due("THE SEED", x.seed(0), 0);
    }

    @Sentence(in = "Promise 12", says = "n times BY DRAWS (1 .. 12): THE SEED. OUTSIDE.")
    static void driftTooManyTimes() {
        TakenUpCalls x = new TakenUpCalls();
        checks.due("drift(13)", x.drift(13), Checks.OUTSIDE);
        checks.due("drift(greatest)", x.drift(GREATEST), Checks.OUTSIDE);
        checks.due("THE SEED", x.seed(0), 0);
    }

    // ---- 13: undo

    private static TakenUpCalls setTimes(int times) {
        TakenUpCalls x = new TakenUpCalls();
        for (int v = 1; v <= times; v++) {
            x.set(0, v);
        }
        return x;
    }

    @Sentence(in = "Promise 13", says = "The n latest (1 .. 16) are undone: how many more can be.")
    static void undoOne() {
        TakenUpCalls x = setTimes(3);
        checks.due("undo(1)", x.undo(1), 2);
        checks.due("cell(0)", x.cell(0), 2);
    }

    @Sentence(in = "Promise 13", says = "The n latest (1 .. 16) are undone: how many more can be.")
    static void undoAllThere() {
        TakenUpCalls x = setTimes(3);
        checks.due("undo(3)", x.undo(3), 0);
        checks.due("cell(0)", x.cell(0), 0);
    }

    @Sentence(in = "Promise 13", says = "The n latest (1 .. 16) are undone: how many more can be.")
    static void undoSixteen() {
        TakenUpCalls x = setTimes(16);
        checks.due("undo(16)", x.undo(16), 0);
        checks.due("cell(0)", x.cell(0), 0);
    }

    @Sentence(in = "Promise 13", says = "The n latest (1 .. 16) are undone: how many more can be.")
    static void undoSixteenOfSeventeen() {
        TakenUpCalls x = setTimes(17);
        checks.due("undo(16)", x.undo(16), 0);
        checks.due("cell(0)", x.cell(0), 1);
    }

    @Sentence(in = "Promise 13", says = "The n latest (1 .. 16) are undone: how many more can be.")
    static void undoneIsNoDeed() {
        TakenUpCalls x = setTimes(2);
        x.undo(1);
        checks.due("deeds", x.told(17), 1);
        checks.due("undo(1) goes on backwards", x.undo(1), 0);
        checks.due("cell(0)", x.cell(0), 0);
    }

    @Sentence(in = "Promise 13", says = "The n latest (1 .. 16) are undone: how many more can be.")
    static void undoneAndDoneAgain() {
        TakenUpCalls x = setTimes(16);
        x.undo(10);
        x.set(0, 99);
        checks.due("deeds", x.told(17), 7);
        checks.due("undo(1)", x.undo(1), 6);
        checks.due("cell(0)", x.cell(0), 6);
        checks.due("undo(6)", x.undo(6), 0);
        checks.due("cell(0) then", x.cell(0), 0);
    }

    @Sentence(in = "Promise 13", says = "OUTSIDE, NOT: not so many.")
    static void undoTooSmallANumber() {
        TakenUpCalls x = setTimes(3);
        checks.due("undo(0)", x.undo(0), Checks.OUTSIDE);
        checks.due("undo(-1)", x.undo(-1), Checks.OUTSIDE);
        checks.due("undo(least)", x.undo(LEAST), Checks.OUTSIDE);
        checks.due("cell(0)", x.cell(0), 3);
    }

    @Sentence(in = "Promise 13", says = "OUTSIDE, NOT: not so many.")
    static void undoTooLargeANumber() {
        TakenUpCalls x = setTimes(20);
        checks.due("undo(17)", x.undo(17), Checks.OUTSIDE);
        checks.due("undo(greatest)", x.undo(GREATEST), Checks.OUTSIDE);
        checks.due("cell(0)", x.cell(0), 20);
    }

    @Sentence(in = "Promise 13", says = "OUTSIDE, NOT: not so many.")
    static void undoWithNoDeeds() {
        TakenUpCalls x = new TakenUpCalls();
        checks.due("undo(1)", x.undo(1), Checks.NOT);
        checks.due("undo(16)", x.undo(16), Checks.NOT);
    }

    @Sentence(in = "Promise 13", says = "OUTSIDE, NOT: not so many.")
    static void undoOneMoreThanThereAre() {
        TakenUpCalls x = setTimes(3);
        checks.due("undo(4)", x.undo(4), Checks.NOT);
        checks.due("none is undone", x.cell(0), 3);
        x = setTimes(15);
        checks.due("undo(16)", x.undo(16), Checks.NOT);
        checks.due("none is undone of fifteen", x.cell(0), 15);
    }
}
