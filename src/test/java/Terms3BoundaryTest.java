/** The boundaries that "Terms" 3 names: what is asked, the book, draws, what is undone, images; each test names its sentence. */
public final class Terms3BoundaryTest {
    private static final String FULL_TRACE = "d+f0x0+f0x0f0x0;";

    private static final Checks checks = new Checks();

    public static void main(String[] args) {
        Boundaries.run(Terms3BoundaryTest.class, checks);
        checks.finish();
    }

    // ---- asked

    @Sentence(in = "Terms 3", says = "ASKED, nothing changes by it.")
    static void askedTwice() {
        TakenUpCalls x = Checks.telling("d+f1x0f1x1;d+nx2;");
        x.set(0, 4);
        x.bring();
        x.set(2, 5);
        x.write(1, 9, 14);
        String first = Boundaries.all(x);
        checks.dueTrue("all is as it was", first.equals(Boundaries.all(x)));
    }

    @Sentence(in = "Terms 3", says = "ASKED, nothing changes by it.")
    static void askedMakesNoNames() {
        TakenUpCalls x = Checks.telling("df1x0;dn;");
        x.write(0, 0, 0);
        x.set(0, 1);
        for (int k = 0; k < 20; k++) {
            x.told(4);
            x.told(5);
            x.told(16);
        }
        checks.due("MADE, ever", x.told(9), 2);
        x.bring();
        checks.due("the next NAME", x.call(1, 3), 2);
        checks.dueTold("bring()", x, 6, 1, 1, 1);
    }

    @Sentence(in = "Terms 3", says = "OLD, a CALL: a CELL that it READ itself holds otherwise now.")
    static void oldNone() {
        TakenUpCalls x = Checks.telling("d+x0f1n;dx1;");
        x.set(7, 5);
        checks.due("OLD", x.told(11), 0);
        checks.due("ROOT", x.call(0, 10), 0);
    }

    @Sentence(in = "Terms 3", says = "OLD, a CALL: a CELL that it READ itself holds otherwise now.")
    static void oldByItselfNotByItsParts() {
        TakenUpCalls x = Checks.telling("d+x0f1n;dx1;");
        x.set(1, 5);
        checks.due("OLD", x.told(11), 1);
        checks.due("ROOT", x.call(0, 10), 0);
        checks.due("its PART", x.call(1, 10), 1);
    }

    @Sentence(in = "Terms 3", says = "OLD, a CALL: a CELL that it READ itself holds otherwise now.")
    static void oldByEachOfEightCells() {
        TakenUpCalls x = Checks.telling("d+x0+x1+x2+x3+x4+x5+x6x7;");
        for (int i = 0; i < 8; i++) {
            x.set(i, 996);
            checks.due("OLD by CELL " + i, x.call(0, 10), 1);
            x.undo(1);
            checks.due("not OLD any more", x.call(0, 10), 0);
        }
    }

    @Sentence(in = "Terms 3", says = "OLD, a CALL: a CELL that it READ itself holds otherwise now.")
    static void oldAll364() {
        TakenUpCalls x = Checks.telling(FULL_TRACE);
        checks.due("OLD", x.told(11), 0);
        x.set(0, 1);
        checks.due("OLD then", x.told(11), 364);
    }

    @Sentence(in = "Terms 3", says = "OLD, a CALL: a CELL that it READ itself holds otherwise now.")
    static void oldNoMoreWhenSetBack() {
        TakenUpCalls x = Checks.telling("dx0;");
        x.set(0, 1);
        x.set(0, 0);
        checks.due("OLD", x.told(11), 0);
    }

    @Sentence(in = "Terms 3", says = "FRESH: what ROOT would tell, of the AIM, were it MADE now.")
    static void freshOfAnotherAim() {
        TakenUpCalls x = Checks.telling("d1;d+n1;");
        x.aim(1, 996);
        checks.due("FRESH", x.told(4), 0);
        checks.due("ROOT", x.told(2), 1);
        x.aim(1, 995);
        checks.due("FRESH", x.told(4), 996);
    }

    @Sentence(in = "Terms 3", says = "FRESH: what ROOT would tell, of the AIM, were it MADE now.")
    static void freshOfOtherCells() {
        TakenUpCalls x = Checks.telling("dx7;");
        x.set(7, 996);
        checks.due("FRESH", x.told(4), 996);
        checks.due("ROOT", x.told(2), 0);
        x.bring();
        checks.due("ROOT then", x.told(2), 996);
    }

    @Sentence(in = "Terms 3", says = "ALIKE: THE TRACE has the FUNCTIONS, arguments, tellings and PARTS that it would have, were ROOT MADE now, of the AIM.")
    static void alikeAtOnce() {
        TakenUpCalls x = Checks.telling(FULL_TRACE);
        checks.due("ALIKE", x.told(5), 1);
    }

    @Sentence(in = "Terms 3", says = "ALIKE: THE TRACE has the FUNCTIONS, arguments, tellings and PARTS that it would have, were ROOT MADE now, of the AIM.")
    static void notAlikeInAFunction() {
        TakenUpCalls x = Checks.telling("d?x0f1nf2n;d7;d7;");
        x.set(0, 1);
        checks.due("ALIKE", x.told(5), 0);
        checks.due("the same is told", x.told(4), x.told(2));
    }

    @Sentence(in = "Terms 3", says = "ALIKE: THE TRACE has the FUNCTIONS, arguments, tellings and PARTS that it would have, were ROOT MADE now, of the AIM.")
    static void notAlikeInAnArgument() {
        TakenUpCalls x = Checks.telling("df1x0;d7;");
        x.set(0, 1);
        checks.due("ALIKE", x.told(5), 0);
        checks.due("the same is told", x.told(4), x.told(2));
    }

    @Sentence(in = "Terms 3", says = "ALIKE: THE TRACE has the FUNCTIONS, arguments, tellings and PARTS that it would have, were ROOT MADE now, of the AIM.")
    static void notAlikeInTheTellingOfNest6() {
        TakenUpCalls x = Checks.telling("d?<n5*0f0+n1x0;");
        x.set(0, 1);
        checks.due("ALIKE", x.told(5), 0);
        checks.due("the same is told", x.told(4), x.told(2));
    }

    @Sentence(in = "Terms 3", says = "ALIKE: THE TRACE has the FUNCTIONS, arguments, tellings and PARTS that it would have, were ROOT MADE now, of the AIM.")
    static void notAlikeInTheTellingOfTheLastPart() {
        TakenUpCalls x = Checks.telling("d*0+f1n+f1nf2n;d5;dx0;");
        x.set(0, 1);
        checks.due("ALIKE", x.told(5), 0);
    }

    @Sentence(in = "Terms 3", says = "ALIKE: THE TRACE has the FUNCTIONS, arguments, tellings and PARTS that it would have, were ROOT MADE now, of the AIM.")
    static void notAlikeWithOnePartFewer() {
        TakenUpCalls x = Checks.telling("d*0?x0f1n+f1nf1n;d5;");
        x.set(0, 1);
        checks.due("ALIKE", x.told(5), 0);
    }

    @Sentence(in = "Terms 3", says = "ALIKE: THE TRACE has the FUNCTIONS, arguments, tellings and PARTS that it would have, were ROOT MADE now, of the AIM.")
    static void notAlikeWithOnePartMore() {
        TakenUpCalls x = Checks.telling("d*0?x0+f1nf1nf1n;d5;");
        x.set(0, 1);
        checks.due("ALIKE", x.told(5), 0);
    }

    @Sentence(in = "Terms 3", says = "ALIKE: THE TRACE has the FUNCTIONS, arguments, tellings and PARTS that it would have, were ROOT MADE now, of the AIM.")
    static void notAlikeOfAnotherAim() {
        TakenUpCalls x = Checks.telling("d7;d7;");
        x.aim(0, 1);
        checks.due("another argument", x.told(5), 0);
        x.aim(1, 0);
        checks.due("another FUNCTION", x.told(5), 0);
        x.aim(0, 0);
        checks.due("as it was", x.told(5), 1);
    }

    @Sentence(in = "Terms 3", says = "ALIKE: THE TRACE has the FUNCTIONS, arguments, tellings and PARTS that it would have, were ROOT MADE now, of the AIM.")
    static void alikeThoughOld() {
        TakenUpCalls x = Checks.telling("d*0x0;");
        x.set(0, 1);
        checks.due("OLD", x.told(11), 1);
        checks.due("ALIKE, READ being none of it", x.told(5), 1);
    }

    @Sentence(in = "Terms 3", says = "BEARS: CELLS that any CALL of THE TRACE READ (a SET).")
    static void bearsNone() {
        TakenUpCalls x = Checks.telling("df1n;d0;");
        checks.due("BEARS", x.told(12), 0);
    }

    @Sentence(in = "Terms 3", says = "BEARS: CELLS that any CALL of THE TRACE READ (a SET).")
    static void bearsTheFirst() {
        checks.due("BEARS", Checks.telling("dx0;").told(12), 1);
    }

    @Sentence(in = "Terms 3", says = "BEARS: CELLS that any CALL of THE TRACE READ (a SET).")
    static void bearsTheLast() {
        checks.due("BEARS", Checks.telling("dx7;").told(12), 128);
    }

    @Sentence(in = "Terms 3", says = "BEARS: CELLS that any CALL of THE TRACE READ (a SET).")
    static void bearsAllEightByAnyCall() {
        TakenUpCalls x = Checks.telling("d+x0+x1f1n;d+x2+x3f2n;d+x4+x5f3n;d+x6x7;");
        checks.due("BEARS", x.told(12), 255);
    }

    @Sentence(in = "Terms 3", says = "BEARS: CELLS that any CALL of THE TRACE READ (a SET).")
    static void bearsWhatOnlyNest6Read() {
        checks.due("BEARS", Checks.telling("d?<n5f0+n1x6;").told(12), 64);
    }

    @Sentence(in = "Terms 3", says = "BEARS: CELLS that any CALL of THE TRACE READ (a SET).")
    static void bearsNotWhatOnlyGoneOnesRead() {
        TakenUpCalls x = Checks.telling("d?x00f1n;dx7;");
        checks.due("BEARS", x.told(12), 129);
        x.set(0, 1);
        checks.due("BEARS, ahead of bring()", x.told(12), 129);
        x.bring();
        checks.due("BEARS then", x.told(12), 1);
    }

    // ---- the book

    @Sentence(in = "Terms 3", says = "THE BOOK (20 at most) tells what a FUNCTION tells of an argument:")
    static void bookOf20() {
        TakenUpCalls x = Checks.telling("dn;");
        for (int e = 0; e < 20; e++) {
            checks.due("entry " + e, x.write(0, e, e), e + 1);
        }
        checks.due("entries", x.told(15), 20);
        checks.due("WRONG", x.told(16), Checks.NONE);
    }

    @Sentence(in = "Terms 3", says = "THE BOOK (20 at most) tells what a FUNCTION tells of an argument:")
    static void bookOf21() {
        TakenUpCalls x = Checks.telling("dn;");
        for (int e = 0; e < 20; e++) {
            x.write(0, e, e);
        }
        checks.due("entry 20", x.write(0, 5, 6), Checks.FULL);
        checks.due("entries", x.told(15), 20);
        checks.due("WRONG", x.told(16), Checks.NONE);
    }

    @Sentence(in = "Terms 3", says = "THE BOOK (20 at most) tells what a FUNCTION tells of an argument:")
    static void bookEmpty() {
        TakenUpCalls x = new TakenUpCalls();
        checks.due("entries", x.told(15), 0);
        checks.due("WRONG", x.told(16), Checks.NONE);
    }

    @Sentence(in = "Terms 3", says = "WRONG: the first that is otherwise,")
    static void wrongTheFirstEntry() {
        TakenUpCalls x = Checks.telling("dn;");
        x.write(0, 5, 6);
        checks.due("WRONG", x.told(16), 0);
    }

    @Sentence(in = "Terms 3", says = "WRONG: the first that is otherwise,")
    static void wrongTheLastOf20() {
        TakenUpCalls x = Checks.telling("dn;");
        for (int e = 0; e < 20; e++) {
            x.write(0, e, e < 19 ? e : 0);
        }
        checks.due("WRONG", x.told(16), 19);
    }

    @Sentence(in = "Terms 3", says = "WRONG: the first that is otherwise,")
    static void wrongOfSeveralTheFirst() {
        TakenUpCalls x = Checks.telling("dn;");
        x.write(0, 5, 5);
        x.write(0, 5, 4);
        x.write(0, 5, 6);
        checks.due("WRONG", x.told(16), 1);
    }

    @Sentence(in = "Terms 3", says = "WRONG: the first that is otherwise, were it MADE now by itself, with NEST 1")
    static void wrongByWhatIsSoNow() {
        TakenUpCalls x = Checks.telling("dx0;");
        x.write(0, 0, 996);
        checks.due("WRONG", x.told(16), 0);
        x.set(0, 996);
        checks.due("WRONG with the CELL set, without bring()", x.told(16), Checks.NONE);
    }

    @Sentence(in = "Terms 3", says = "WRONG: the first that is otherwise, were it MADE now by itself, with NEST 1")
    static void wrongWithNest1() {
        TakenUpCalls x = Checks.telling("df1n;d+1f1n;");
        checks.due("FUNCTION 1 with NEST 2", x.call(1, 2), 5);
        x.write(1, 0, 6);
        checks.due("6 by itself", x.told(16), Checks.NONE);
        x.write(1, 0, 5);
        checks.due("5 in THE TRACE", x.told(16), 1);
    }

    @Sentence(in = "Terms 3", says = "(one that is not told any more tells 0); NONE.")
    static void wrongOfOneNotToldAnyMoreThatIsSaidToTell0() {
        TakenUpCalls x = Checks.telling("d1;d7;");
        x.write(1, 996, 0);
        checks.due("told", x.told(16), 0);
        Checks.tell(x, "d1;");
        checks.due("not told any more", x.told(16), Checks.NONE);
    }

    @Sentence(in = "Terms 3", says = "(one that is not told any more tells 0); NONE.")
    static void wrongOfOneNotToldAnyMoreThatIsSaidToTellMore() {
        TakenUpCalls x = Checks.telling("d1;d7;");
        x.write(1, 996, 7);
        checks.due("told", x.told(16), Checks.NONE);
        Checks.tell(x, "d1;");
        checks.due("not told any more", x.told(16), 0);
        Checks.tell(x, "d1;d+6<0n;");
        checks.due("told again", x.told(16), Checks.NONE);
    }

    @Sentence(in = "Terms 3", says = "(one that is not told any more tells 0); NONE.")
    static void wrongNoneOfAllThatHold() {
        TakenUpCalls x = Checks.telling("dn;d+n1;");
        x.write(0, 0, 0);
        x.write(1, 996, 0);
        checks.due("WRONG", x.told(16), Checks.NONE);
    }

    // ---- draws

    @Sentence(in = "Terms 3", says = "BY DRAWS: THE SEED (0 at first:")
    static void seedAtFirst() {
        TakenUpCalls x = new TakenUpCalls();
        checks.due("seed(5)", x.seed(5), 0);
    }

    private static void dueDraws(int seed, int seedThen, int cell, int holds) {
        TakenUpCalls x = new TakenUpCalls();
        for (int i = 0; i < 8; i++) {
            x.set(i, 996);
        }
        x.seed(seed);
        checks.due("drift(1) from " + seed, x.drift(1), seedThen);
        for (int i = 0; i < 8; i++) {
            checks.due("cell(" + i + ") from " + seed, x.cell(i), i == cell ? holds : 996);
        }
    }

    @Sentence(in = "Terms 3", says = "each DRAW it becomes it times 1103515245 and 12345, left over by 2 to the 31;")
    static void drawsFromTheLeastSeed() {
        dueDraws(0, 1406932606, 0, 8);
    }

    @Sentence(in = "Terms 3", says = "each DRAW it becomes it times 1103515245 and 12345, left over by 2 to the 31;")
    static void drawsFromTheGreatestSeed() {
        dueDraws(2147483647, 288979989, 1043980748 / 65536 % 8, 288979989 / 65536 % 10);
    }

    @Sentence(in = "Terms 3", says = "left over by 2 to the 31;")
    static void drawsWithTheSeedBecoming0() {
        dueDraws(2088216195, 12345, 0, 0);
        dueDraws(204577074, 0, 7, 0);
    }

    @Sentence(in = "Terms 3", says = "left over by 2 to the 31;")
    static void drawsWithTheSeedBecomingTheGreatest() {
        dueDraws(230538014, 1043980748, 7, 9);
        dueDraws(801440601, 2147483647, 5, 7);
    }

    @Sentence(in = "Terms 3", says = "the DRAW of n is it / 65536, left over by n)")
    static void drawJustBelow65536() {
        dueDraws(2032319262, 212263372, 0, 8);
    }

    @Sentence(in = "Terms 3", says = "the DRAW of n is it / 65536, left over by n)")
    static void drawOf65536() {
        dueDraws(1742513795, 1315778617, 1, 7);
    }

    @Sentence(in = "Terms 3", says = "n times: a DRAW of 8, of 10: this CELL holds that.")
    static void drawOf8TheLast() {
        dueDraws(1815783043, 620441657, 7, 7);
        dueDraws(1759886110, 832692684, 7, 5);
    }

    @Sentence(in = "Terms 3", says = "n times: a DRAW of 8, of 10: this CELL holds that.")
    static void drawOf8WrapsAround() {
        dueDraws(1470080643, 1936207929, 0, 4);
    }

    @Sentence(in = "Terms 3", says = "n times: a DRAW of 8, of 10: this CELL holds that.")
    static void drawOf10TheGreatest() {
        dueDraws(1355979058, 65536 * 9, 4, 9);
        dueDraws(171901785, 65536 * 10 - 1, 7, 9);
    }

    @Sentence(in = "Terms 3", says = "n times: a DRAW of 8, of 10: this CELL holds that.")
    static void drawOf10WrapsAround() {
        dueDraws(1722521906, 65536 * 10, 1, 0);
    }

    @Sentence(in = "Terms 3", says = "n times: a DRAW of 8, of 10: this CELL holds that.")
    static void drawsReachEveryCellAndEveryFigure() {
        TakenUpCalls x = new TakenUpCalls();
        int cells = 0;
        int figures = 0;
        for (int k = 0; k < 150; k++) {
            int[] ahead = cellsOf(x);
            x.drift(1);
            int[] then = cellsOf(x);
            for (int i = 0; i < 8; i++) {
                if (ahead[i] != then[i]) {
                    cells |= 1 << i;
                    figures |= 1 << then[i];
                }
            }
            if (k % 25 == 24) {
                int seed = x.seed(0);
                x = new TakenUpCalls();
                x.seed(seed);
            }
        }
        checks.due("CELLS", cells, 255);
        checks.due("what they hold", figures, 1023);
    }

    private static int[] cellsOf(TakenUpCalls x) {
        int[] cells = new int[8];
        for (int i = 0; i < 8; i++) {
            cells[i] = x.cell(i);
        }
        return cells;
    }

    // ---- undone

    @Sentence(in = "Terms 3", says = "UNDONE: the latest deeds (set(), aim(), each time BY DRAWS:")
    static void undoneASet() {
        TakenUpCalls x = new TakenUpCalls();
        x.set(7, 996);
        checks.due("undo(1)", x.undo(1), 0);
        checks.due("cell(7)", x.cell(7), 0);
    }

    @Sentence(in = "Terms 3", says = "UNDONE: the latest deeds (set(), aim(), each time BY DRAWS:")
    static void undoneAnAim() {
        TakenUpCalls x = Checks.telling("dn;dn;");
        x.aim(1, 996);
        checks.due("undo(1)", x.undo(1), 0);
        checks.dueTold("undo(1)", x, 13, 0, 0);
    }

    @Sentence(in = "Terms 3", says = "UNDONE: the latest deeds (set(), aim(), each time BY DRAWS:")
    static void undoneOneTimeByDraws() {
        TakenUpCalls x = new TakenUpCalls();
        TakenUpCalls twoTimes = new TakenUpCalls();
        x.drift(3);
        twoTimes.drift(2);
        checks.due("three times", x.told(17), 3);
        checks.due("undo(1)", x.undo(1), 2);
        for (int i = 0; i < 8; i++) {
            checks.due("cell(" + i + ")", x.cell(i), twoTimes.cell(i));
        }
    }

    @Sentence(in = "Terms 3", says = "all that were not refused, be it that they changed nothing)")
    static void undoneASetThatChangedNothing() {
        TakenUpCalls x = new TakenUpCalls();
        x.set(0, 5);
        x.set(0, 5);
        checks.due("deeds", x.told(17), 2);
        x.undo(1);
        checks.due("cell(0)", x.cell(0), 5);
    }

    @Sentence(in = "Terms 3", says = "all that were not refused, be it that they changed nothing)")
    static void undoneAnAimThatChangedNothing() {
        TakenUpCalls x = new TakenUpCalls();
        x.aim(0, 9);
        x.aim(0, 9);
        checks.due("deeds", x.told(17), 2);
        x.undo(1);
        checks.due("the argument", x.told(14), 9);
    }

    @Sentence(in = "Terms 3", says = "all that were not refused, be it that they changed nothing)")
    static void undoneADrawThatChangedNothing() {
        TakenUpCalls x = new TakenUpCalls();
        x.seed(2088216195);
        x.drift(1);
        checks.due("cell(0), as it was", x.cell(0), 0);
        checks.due("deeds", x.told(17), 1);
    }

    @Sentence(in = "Terms 3", says = "all that were not refused, be it that they changed nothing)")
    static void undoneNothingRefused() {
        TakenUpCalls x = new TakenUpCalls();
        x.set(8, 0);
        x.set(0, 997);
        x.aim(1, 0);
        x.aim(0, 997);
        x.drift(0);
        x.drift(13);
        checks.due("deeds", x.told(17), 0);
        checks.due("undo(1)", x.undo(1), Checks.NOT);
    }

    @Sentence(in = "Terms 3", says = "since FUNCTIONS were told, or the IMAGE")
    static void undoneNothingAheadOfFunctions() {
        TakenUpCalls x = new TakenUpCalls();
        x.set(0, 5);
        Checks.tell(x, "d1;");
        checks.due("undo(1)", x.undo(1), Checks.NOT);
        checks.due("cell(0)", x.cell(0), 5);
    }

    @Sentence(in = "Terms 3", says = "since FUNCTIONS were told, or the IMAGE")
    static void undoneWhatIsAheadOfAFault() {
        TakenUpCalls x = new TakenUpCalls();
        x.set(0, 5);
        Checks.tell(x, "d1");
        checks.due("undo(1)", x.undo(1), 0);
        checks.due("cell(0)", x.cell(0), 0);
    }

    @Sentence(in = "Terms 3", says = "since FUNCTIONS were told, or the IMAGE")
    static void undoneNothingAheadOfAnImageKept() {
        TakenUpCalls x = new TakenUpCalls();
        x.set(0, 5);
        x.keep(0);
        checks.due("undo(1)", x.undo(1), Checks.NOT);
        x.set(0, 6);
        checks.due("undo(1) of what is behind it", x.undo(1), 0);
        checks.due("cell(0)", x.cell(0), 5);
    }

    @Sentence(in = "Terms 3", says = "since FUNCTIONS were told, or the IMAGE")
    static void undoneNothingAheadOfAnImageGoneBackTo() {
        TakenUpCalls x = new TakenUpCalls();
        x.keep(1);
        x.set(0, 5);
        x.goBack(1);
        checks.due("undo(1)", x.undo(1), Checks.NOT);
        checks.due("cell(0)", x.cell(0), 0);
    }

    @Sentence(in = "Terms 3", says = "(16 at most are kept)")
    static void undoneTheSixteenth() {
        TakenUpCalls x = new TakenUpCalls();
        for (int v = 1; v <= 16; v++) {
            x.set(0, v);
        }
        checks.due("deeds", x.told(17), 16);
        checks.due("undo(16)", x.undo(16), 0);
        checks.due("cell(0)", x.cell(0), 0);
    }

    @Sentence(in = "Terms 3", says = "(16 at most are kept)")
    static void undoneNotTheSeventeenth() {
        TakenUpCalls x = new TakenUpCalls();
        for (int v = 1; v <= 17; v++) {
            x.set(0, v);
        }
        checks.due("deeds", x.told(17), 16);
        checks.due("undo(16)", x.undo(16), 0);
        checks.due("cell(0)", x.cell(0), 1);
        checks.due("undo(1)", x.undo(1), Checks.NOT);
    }

    @Sentence(in = "Terms 3", says = "(16 at most are kept)")
    static void undoneTheSixteenthOfAimsAndDraws() {
        TakenUpCalls x = Checks.telling("dn;dn;");
        x.set(3, 700);
        x.aim(1, 5);
        x.drift(12);
        x.drift(3);
        checks.due("deeds", x.told(17), 16);
        checks.due("undo(15)", x.undo(15), 1);
        checks.dueTold("the AIM stays", x, 13, 1, 5);
        checks.due("undo(1)", x.undo(1), 0);
        checks.dueTold("the AIM is as ahead of it", x, 13, 0, 0);
        checks.due("the deed ahead of the sixteen stays", x.cell(3), 700);
    }

    @Sentence(in = "Terms 3", says = "(16 at most are kept)")
    static void undoneOverAndOver() {
        TakenUpCalls x = new TakenUpCalls();
        int v = 0;
        for (int round = 0; round < 8; round++) {
            for (int k = 0; k < 16; k++) {
                v++;
                x.set(0, v);
            }
            v -= 11;
            checks.due("undo(11) in round " + round, x.undo(11), 5);
            checks.due("cell(0) in round " + round, x.cell(0), v);
        }
    }

    @Sentence(in = "Terms 3", says = "CELLS, the AIM are as ahead of them; THE TRACE, THE SEED stay.")
    static void undoneLeavesTheTrace() {
        TakenUpCalls x = Checks.telling("d+f1x0x1;dn;");
        x.set(0, 5);
        x.set(1, 6);
        x.aim(0, 7);
        x.bring();
        x.undo(3);
        checks.due("told(2)", x.told(2), 11);
        checks.due("ROOT's argument", x.call(0, 1), 7);
        checks.due("OLD", x.told(11), 1);
        checks.dueTold("by the latest bring()", x, 6, 2, 0, 2, 4);
    }

    @Sentence(in = "Terms 3", says = "CELLS, the AIM are as ahead of them; THE TRACE, THE SEED stay.")
    static void undoneLeavesTheSeed() {
        TakenUpCalls x = new TakenUpCalls();
        int seed = x.drift(12);
        x.undo(12);
        checks.due("THE SEED", x.seed(0), seed);
        for (int i = 0; i < 8; i++) {
            checks.due("cell(" + i + ")", x.cell(i), 0);
        }
    }

    // ---- images

    @Sentence(in = "Terms 3", says = "IMAGES 0, 1 keep CELLS, the AIM, THE SEED.")
    static void imagesTheFirstAndTheLast() {
        TakenUpCalls x = Checks.telling("dn;dn;");
        x.set(0, 1);
        x.set(7, 2);
        x.aim(1, 3);
        x.seed(4);
        checks.due("keep(0)", x.keep(0), 1);
        x.set(0, 5);
        x.set(7, 6);
        x.aim(0, 7);
        x.seed(8);
        checks.due("keep(1)", x.keep(1), 1);
        x.goBack(0);
        dueScene("IMAGE 0", x, 1, 2, 1, 3, 4);
        x.goBack(1);
        dueScene("IMAGE 1", x, 5, 6, 0, 7, 8);
    }

    private static void dueScene(String when, TakenUpCalls x, int... due) {
        checks.due(when + ": cell(0)", x.cell(0), due[0]);
        checks.due(when + ": cell(7)", x.cell(7), due[1]);
        checks.dueTold(when, x, 13, due[2], due[3]);
        checks.due(when + ": THE SEED", x.seed(0), due[4]);
    }

    @Sentence(in = "Terms 3", says = "IMAGES 0, 1 keep CELLS, the AIM, THE SEED.")
    static void imagesBesideThem() {
        TakenUpCalls x = new TakenUpCalls();
        checks.due("keep(-1)", x.keep(-1), Checks.UNKNOWN);
        checks.due("keep(2)", x.keep(2), Checks.UNKNOWN);
    }

    @Sentence(in = "Terms 3", says = "IMAGES 0, 1 keep CELLS, the AIM, THE SEED.")
    static void imagesKeepAllEightCellsAndTheirGreatest() {
        TakenUpCalls x = new TakenUpCalls();
        for (int i = 0; i < 8; i++) {
            x.set(i, 996 - i);
        }
        x.aim(0, 996);
        x.seed(2147483647);
        x.keep(1);
        for (int i = 0; i < 8; i++) {
            x.set(i, i);
        }
        x.aim(0, 0);
        x.seed(0);
        x.goBack(1);
        for (int i = 0; i < 8; i++) {
            checks.due("cell(" + i + ")", x.cell(i), 996 - i);
        }
        checks.due("the argument", x.told(14), 996);
        checks.due("THE SEED", x.seed(0), 2147483647);
    }

    @Sentence(in = "Terms 3", says = "IMAGES 0, 1 keep CELLS, the AIM, THE SEED.")
    static void imagesKeepNeitherTheTraceNorTheBook() {
        TakenUpCalls x = Checks.telling("dx0;");
        x.keep(0);
        x.set(0, 5);
        x.bring();
        x.write(0, 0, 5);
        x.goBack(0);
        checks.due("told(2)", x.told(2), 5);
        checks.due("DONE ANEW by the latest bring()", x.told(7), 1);
        checks.due("OLD", x.told(11), 1);
        checks.due("entries", x.told(15), 1);
    }

    @Sentence(in = "Terms 3", says = "(They stay when FUNCTIONS are told.)")
    static void imagesStayWithNewFunctions() {
        TakenUpCalls x = Checks.telling("dn;dn;");
        x.set(0, 1);
        x.aim(1, 3);
        x.seed(4);
        x.keep(0);
        Checks.tell(x, "d1;dx0;");
        x.set(0, 9);
        checks.due("goBack(0)", x.goBack(0), 1);
        checks.due("cell(0)", x.cell(0), 1);
        checks.dueTold("goBack(0)", x, 13, 1, 3);
        checks.due("THE SEED", x.seed(0), 4);
        checks.due("bring()", x.bring(), 1);
    }

    @Sentence(in = "Terms 3", says = "(They stay when FUNCTIONS are told.)")
    static void imagesNeverKeptAreNotKeptByFunctions() {
        TakenUpCalls x = Checks.telling("dn;");
        x.keep(1);
        Checks.tell(x, "d1;");
        checks.due("goBack(0)", x.goBack(0), Checks.NOT);
        checks.due("goBack(1)", x.goBack(1), 1);
    }
}
