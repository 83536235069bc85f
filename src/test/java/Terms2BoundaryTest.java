/** The boundaries that "Terms" 2 names: calls made, brought, done anew, taken up, gone; each test names its sentence. */
public final class Terms2BoundaryTest {
    private static final String FULL_TRACE = "d+f0n+f0nf0n;";
    /** Calls itself with one more up to NEST 6, which reads cell 0. */
    private static final String DEEP = "d?<n5f0+n1x0;";

    private static final Checks checks = new Checks();

    public static void main(String[] args) {
        Boundaries.run(Terms2BoundaryTest.class, checks);
        checks.finish();
    }

    private static void dueCounts(TakenUpCalls x, int made, int anew, int gone) {
        checks.due("MADE", x.told(6), made);
        checks.due("DONE ANEW", x.told(7), anew);
        checks.due("gone", x.told(8), gone);
    }

    private static void dueNames(TakenUpCalls x, int... names) {
        checks.due("CALLS", x.told(3), names.length);
        for (int k = 0; k < names.length; k++) {
            checks.due("NAME of " + k, x.call(k, 3), names[k]);
        }
    }

    private static void dueDoings(TakenUpCalls x, int... doings) {
        for (int k = 0; k < doings.length; k++) {
            checks.due("DOINGS of " + k, x.call(k, 4), doings[k]);
        }
    }

    /** The root calls function 1 three times, with what cells 0, 1, 2 hold; that reads cell 7. */
    private static TakenUpCalls three(int a, int b, int c) {
        TakenUpCalls x = new TakenUpCalls();
        setThree(x, a, b, c);
        Checks.tell(x, "d+f1x0+f1x1f1x2;d+nx7;");
        return x;
    }

    private static void setThree(TakenUpCalls x, int a, int b, int c) {
        x.set(0, a);
        x.set(1, b);
        x.set(2, c);
    }

    // ---- a call, its nest, its number

    @Sentence(in = "Terms 2", says = "A CALL: a FUNCTION, an argument (a NUMBER), what it tells (what its BODY tells),")
    static void callOfTheLeast() {
        TakenUpCalls x = Checks.telling("dn;");
        checks.dueCall("ROOT", x, 0, 0, 0, 0);
    }

    @Sentence(in = "Terms 2", says = "A CALL: a FUNCTION, an argument (a NUMBER), what it tells (what its BODY tells),")
    static void callOfTheGreatest() {
        TakenUpCalls x = Checks.telling("d0;d0;d0;d0;dn;");
        x.aim(4, 996);
        x.bring();
        checks.dueCall("ROOT", x, 0, 4, 996, 996);
    }

    @Sentence(in = "Terms 2", says = "what it READ itself (CELLS, and what they held)")
    static void readNothingItself() {
        TakenUpCalls x = Checks.telling("df1n;dx3;");
        checks.due("READ by ROOT", x.call(0, 7), 0);
        checks.due("READ by its PART", x.call(1, 7), 8);
    }

    @Sentence(in = "Terms 2", says = "what it READ itself (CELLS, and what they held)")
    static void readAllEightItself() {
        TakenUpCalls x = Checks.telling("d+x0+x1+x2+x3+x4+x5+x6x7;");
        checks.due("READ", x.call(0, 7), 255);
    }

    @Sentence(in = "Terms 2", says = "what it READ itself (CELLS, and what they held)")
    static void readOneTwice() {
        TakenUpCalls x = Checks.telling("d+x5x5;");
        checks.due("READ", x.call(0, 7), 32);
    }

    @Sentence(in = "Terms 2", says = "and PARTS: CALLS that it made itself, in order.")
    static void partsNone() {
        TakenUpCalls x = Checks.telling("d0;df0n;");
        checks.due("PARTS", x.call(0, 8), 0);
        checks.due("it holds itself", x.call(0, 9), 1);
    }

    @Sentence(in = "Terms 2", says = "and PARTS: CALLS that it made itself, in order.")
    static void partsThree() {
        TakenUpCalls x = Checks.telling("d+f1n+f1nf1n;df2n;d0;");
        checks.due("PARTS, not theirs", x.call(0, 8), 3);
        checks.due("it holds theirs, too", x.call(0, 9), 7);
    }

    @Sentence(in = "Terms 2", says = "ROOT is a CALL of NEST 1; PARTS have NEST 1 more than what made them.")
    static void nestOfRoot() {
        TakenUpCalls x = Checks.telling("d0;");
        checks.due("NEST", x.call(0, 6), 1);
        checks.due("the greatest", x.told(10), 1);
    }

    @Sentence(in = "Terms 2", says = "ROOT is a CALL of NEST 1; PARTS have NEST 1 more than what made them.")
    static void nestOfParts() {
        TakenUpCalls x = Checks.telling("d+f1nf2n;df2n;d0;");
        checks.due("NEST of the first PART", x.call(1, 6), 2);
        checks.due("NEST of its PART", x.call(2, 6), 3);
        checks.due("NEST of the second PART", x.call(3, 6), 2);
    }

    @Sentence(in = "Terms 2", says = "What would be a CALL of NEST 7 is not made: it tells 0.")
    static void nest6IsMade() {
        TakenUpCalls x = Checks.telling(DEEP);
        checks.due("CALLS", x.told(3), 6);
        checks.due("NEST", x.call(5, 6), 6);
        checks.due("it READ", x.call(5, 7), 1);
    }

    @Sentence(in = "Terms 2", says = "What would be a CALL of NEST 7 is not made: it tells 0.")
    static void nest7IsNotMade() {
        TakenUpCalls x = Checks.telling("d?f0n15;");
        checks.due("CALLS", x.told(3), 6);
        checks.due("MADE, ever", x.told(9), 6);
        checks.due("the greatest NEST", x.told(10), 6);
        checks.due("PARTS of NEST 6", x.call(5, 8), 0);
        checks.due("NEST 7 told 0, so NEST 6 tells 5", x.call(5, 2), 5);
        checks.due("NEST 5 tells 1", x.call(4, 2), 1);
    }

    @Sentence(in = "Terms 2", says = "What would be a CALL of NEST 7 is not made: it tells 0.")
    static void nest7IsNotMadeWhenDoneAnew() {
        TakenUpCalls x = Checks.telling("d+x0f0n;");
        x.set(0, 1);
        checks.due("bring()", x.bring(), 6);
        dueCounts(x, 0, 6, 0);
        checks.due("CALLS", x.told(3), 6);
    }

    @Sentence(in = "Terms 2", says = "What would be a CALL of NEST 7 is not made: it tells 0.")
    static void nest7WouldReadByItsArgument() {
        TakenUpCalls x = Checks.telling("d+x0f0x1;");
        checks.due("the argument's TERM is gone through by NEST 6", x.call(5, 7), 3);
    }

    @Sentence(in = "Terms 2", says = "THE TRACE: ROOT and all that it holds;")
    static void traceOfRootAlone() {
        TakenUpCalls x = new TakenUpCalls();
        checks.due("CALLS", x.told(3), 1);
        checks.due("ROOT holds", x.call(0, 9), 1);
    }

    @Sentence(in = "Terms 2", says = "THE TRACE: ROOT and all that it holds;")
    static void traceOfAsManyAsCanBe() {
        TakenUpCalls x = Checks.telling(FULL_TRACE);
        checks.due("CALLS", x.told(3), 1 + 3 + 9 + 27 + 81 + 243);
        checks.due("ROOT holds", x.call(0, 9), 364);
    }

    @Sentence(in = "Terms 2", says = "CALLS are numbered as they are begun: ROOT 0, each ahead of its PARTS, these in order.")
    static void numberedRootAlone() {
        TakenUpCalls x = new TakenUpCalls();
        checks.due("the CALL that made 0", x.call(0, 5), Checks.NONE);
        checks.due("there is no 1", x.call(1, 0), Checks.UNKNOWN);
    }

    @Sentence(in = "Terms 2", says = "CALLS are numbered as they are begun: ROOT 0, each ahead of its PARTS, these in order.")
    static void numberedEachAheadOfItsParts() {
        TakenUpCalls x = Checks.telling("d+f12f23;d+f2nf2+n1;d0;");
        int[] arguments = {0, 2, 2, 3, 3};
        int[] madeBy = {-1, 0, 1, 1, 0};
        for (int k = 0; k < 5; k++) {
            checks.due("argument of " + k, x.call(k, 1), arguments[k]);
            checks.due("what made " + k, x.call(k, 5), madeBy[k]);
        }
    }

    @Sentence(in = "Terms 2", says = "CALLS are numbered as they are begun: ROOT 0, each ahead of its PARTS, these in order.")
    static void numberedInAFullTrace() {
        TakenUpCalls x = Checks.telling(FULL_TRACE);
        checks.due("CALLS", x.told(3), 364);
        checks.due("ROOT holds", x.call(0, 9), 364);
        for (int k = 1; k < 364; k += 121) {
            checks.due("what made " + k, x.call(k, 5), 0);
            checks.due(k + " holds", x.call(k, 9), 121);
        }
        checks.due("what made the last", x.call(363, 5), 360);
        checks.due("NEST of the last", x.call(363, 6), 6);
        checks.due("NAME of the last", x.call(363, 3), 363);
        checks.due("there is no 364", x.call(364, 0), Checks.UNKNOWN);
    }

    // ---- made

    @Sentence(in = "Terms 2", says = "MADE, a CALL: its BODY is gone through with what is so now; what it CALLS is MADE.")
    static void madeWithWhatIsSoNow() {
        TakenUpCalls x = new TakenUpCalls();
        x.set(0, 996);
        Checks.tell(x, "df1x0;d+nx0;");
        checks.due("told(2)", x.told(2), 995);
        checks.due("argument of its PART", x.call(1, 1), 996);
        checks.due("none is OLD", x.told(11), 0);
    }

    @Sentence(in = "Terms 2", says = "MADE, a CALL: its BODY is gone through with what is so now; what it CALLS is MADE.")
    static void madeWithAllItCalls() {
        TakenUpCalls x = Checks.telling("d?x0f1n0;df2n;d5;");
        x.set(0, 1);
        checks.due("bring()", x.bring(), 5);
        dueCounts(x, 2, 1, 0);
        dueNames(x, 0, 1, 2);
    }

    @Sentence(in = "Terms 2", says = "Its NAME: how many were MADE ahead of it, ever (since the FUNCTIONS were told). DOINGS: 1.")
    static void nameOfTheFirst() {
        TakenUpCalls x = Checks.telling("df1n;d0;");
        dueNames(x, 0, 1);
        dueDoings(x, 1, 1);
    }

    @Sentence(in = "Terms 2", says = "Its NAME: how many were MADE ahead of it, ever (since the FUNCTIONS were told).")
    static void nameOfWhatIsGoneIsNotGivenAgain() {
        TakenUpCalls x = Checks.telling("df1x0;dn;");
        x.set(0, 1);
        x.bring();
        dueNames(x, 0, 2);
        x.set(0, 0);
        x.bring();
        dueNames(x, 0, 3);
    }

    @Sentence(in = "Terms 2", says = "Its NAME: how many were MADE ahead of it, ever (since the FUNCTIONS were told).")
    static void namesFrom0OnWithNewFunctions() {
        TakenUpCalls x = Checks.telling("df1x0;dn;");
        x.set(0, 1);
        x.bring();
        Checks.tell(x, "df1n;d0;");
        dueNames(x, 0, 1);
        checks.due("MADE, ever", x.told(9), 2);
    }

    @Sentence(in = "Terms 2", says = "Its NAME: how many were MADE ahead of it, ever (since the FUNCTIONS were told).")
    static void namesGoOnBehindAFault() {
        TakenUpCalls x = Checks.telling("df1x0;dn;");
        Checks.tell(x, "d");
        x.set(0, 1);
        x.bring();
        dueNames(x, 0, 2);
    }

    // ---- brought

    @Sentence(in = "Terms 2", says = "BROUGHT, a CALL: if a CELL that it READ itself holds otherwise now than it READ, it is DONE ANEW.")
    static void broughtWithNoCellOtherwise() {
        TakenUpCalls x = Checks.telling("d+x0x7;");
        x.bring();
        dueCounts(x, 0, 0, 0);
        dueDoings(x, 1);
    }

    @Sentence(in = "Terms 2", says = "BROUGHT, a CALL: if a CELL that it READ itself holds otherwise now than it READ, it is DONE ANEW.")
    static void broughtWithEachOfEightCellsOtherwise() {
        TakenUpCalls x = Checks.telling("d+x0+x1+x2+x3+x4+x5+x6x7;");
        for (int i = 0; i < 8; i++) {
            x.set(i, 1);
            checks.due("bring() with CELL " + i, x.bring(), i + 1);
            dueCounts(x, 0, 1, 0);
        }
    }

    @Sentence(in = "Terms 2", says = "BROUGHT, a CALL: if a CELL that it READ itself holds otherwise now than it READ, it is DONE ANEW.")
    static void broughtWithACellOtherwiseByOne() {
        TakenUpCalls x = Checks.telling("dx0;");
        int[] values = {996, 995, 996, 0, 1, 0};
        for (int v : values) {
            x.set(0, v);
            checks.due("bring() of " + v, x.bring(), v);
            dueCounts(x, 0, 1, 0);
        }
    }

    @Sentence(in = "Terms 2", says = "BROUGHT, a CALL: if a CELL that it READ itself holds otherwise now than it READ, it is DONE ANEW.")
    static void broughtWithACellSetAndSetBack() {
        TakenUpCalls x = Checks.telling("dx0;");
        x.set(0, 5);
        x.set(0, 0);
        x.bring();
        dueCounts(x, 0, 0, 0);
    }

    @Sentence(in = "Terms 2", says = "BROUGHT, a CALL: if a CELL that it READ itself holds otherwise now than it READ, it is DONE ANEW.")
    static void broughtWithACellOtherwiseThatItDidNotRead() {
        TakenUpCalls x = Checks.telling("dx0;");
        x.set(1, 5);
        x.bring();
        dueCounts(x, 0, 0, 0);
    }

    @Sentence(in = "Terms 2", says = "BROUGHT, a CALL: if a CELL that it READ itself holds otherwise now than it READ, it is DONE ANEW.")
    static void broughtWithACellThatItReadsNoMore() {
        TakenUpCalls x = Checks.telling("d?x0x1x2;");
        x.set(0, 1);
        x.bring();
        x.set(2, 9);
        x.bring();
        dueCounts(x, 0, 0, 0);
        dueDoings(x, 2);
    }

    @Sentence(in = "Terms 2", says = "BROUGHT, a CALL: if a CELL that it READ itself holds otherwise now than it READ, it is DONE ANEW.")
    static void broughtByItsOwnCellAheadOfItsParts() {
        TakenUpCalls x = Checks.telling("d?x00f1n;dx1;");
        x.set(0, 1);
        x.set(1, 5);
        x.bring();
        dueCounts(x, 0, 1, 1);
    }

    @Sentence(in = "Terms 2", says = "BROUGHT, a CALL: if a CELL that it READ itself holds otherwise now than it READ, it is DONE ANEW.")
    static void broughtTwiceIsDoneAnewOnce() {
        TakenUpCalls x = Checks.telling("dx0;");
        x.set(0, 5);
        x.bring();
        x.bring();
        dueCounts(x, 0, 0, 0);
        dueDoings(x, 2);
    }

    @Sentence(in = "Terms 2", says = "Else its PARTS are BROUGHT, the first one first, until one tells otherwise than it did: then it is DONE ANEW.")
    static void firstPartTellsOtherwise() {
        TakenUpCalls x = Checks.telling("d+f1n+f2nf3n;dx0;dx1;dx2;");
        x.set(0, 5);
        checks.due("bring()", x.bring(), 5);
        dueCounts(x, 0, 2, 0);
        dueDoings(x, 2, 2, 1, 1);
    }

    @Sentence(in = "Terms 2", says = "Else its PARTS are BROUGHT, the first one first, until one tells otherwise than it did: then it is DONE ANEW.")
    static void lastPartTellsOtherwise() {
        TakenUpCalls x = Checks.telling("d+f1n+f2nf3n;dx0;dx1;dx2;");
        x.set(2, 5);
        checks.due("bring()", x.bring(), 5);
        dueCounts(x, 0, 2, 0);
        dueDoings(x, 2, 1, 1, 2);
    }

    @Sentence(in = "Terms 2", says = "Else its PARTS are BROUGHT, the first one first, until one tells otherwise than it did: then it is DONE ANEW.")
    static void allPartsTellOtherwise() {
        TakenUpCalls x = Checks.telling("d+f1n+f1nf1n;dx0;");
        x.set(0, 5);
        checks.due("bring()", x.bring(), 15);
        dueCounts(x, 0, 4, 0);
        dueDoings(x, 2, 2, 2, 2);
    }

    @Sentence(in = "Terms 2", says = "until one tells otherwise than it did: then it is DONE ANEW.")
    static void partBehindTheOneThatTellsOtherwiseIsNotBrought() {
        TakenUpCalls x = Checks.telling("d?f1n0f2n;dx0;dx1;");
        dueNames(x, 0, 1, 2);
        x.set(0, 1);
        x.set(1, 5);
        checks.due("bring()", x.bring(), 0);
        dueCounts(x, 0, 2, 1);
    }

    @Sentence(in = "Terms 2", says = "until one tells otherwise than it did: then it is DONE ANEW.")
    static void partOfNest6TellsOtherwise() {
        TakenUpCalls x = Checks.telling(DEEP);
        x.set(0, 9);
        checks.due("bring()", x.bring(), 9);
        dueCounts(x, 0, 6, 0);
        dueDoings(x, 2, 2, 2, 2, 2, 2);
    }

    @Sentence(in = "Terms 2", says = "If none does, it stays as it is.")
    static void staysWithoutParts() {
        TakenUpCalls x = new TakenUpCalls();
        checks.due("bring()", x.bring(), 0);
        dueCounts(x, 0, 0, 0);
        dueDoings(x, 1);
    }

    @Sentence(in = "Terms 2", says = "If none does, it stays as it is.")
    static void staysWhenAPartDoneAnewTellsTheSame() {
        TakenUpCalls x = Checks.telling("df1n;d*0x0;");
        x.set(0, 9);
        checks.due("bring()", x.bring(), 0);
        dueCounts(x, 0, 1, 0);
        dueDoings(x, 1, 2);
    }

    @Sentence(in = "Terms 2", says = "If none does, it stays as it is.")
    static void staysAboveOneThatTellsTheSame() {
        TakenUpCalls x = Checks.telling("d?<n5*0f0+n1x0;");
        x.set(0, 9);
        checks.due("bring()", x.bring(), 0);
        dueCounts(x, 0, 2, 0);
        dueDoings(x, 1, 1, 1, 1, 2, 2);
    }

    @Sentence(in = "Terms 2", says = "If none does, it stays as it is.")
    static void staysAFullTrace() {
        TakenUpCalls x = Checks.telling(FULL_TRACE);
        checks.due("bring()", x.bring(), 0);
        dueCounts(x, 0, 0, 0);
        checks.due("DOINGS of the last", x.call(363, 4), 1);
    }

    // ---- done anew

    @Sentence(in = "Terms 2", says = "DONE ANEW: its BODY is gone through with what is so now, DOINGS is 1 more, NAME stays;")
    static void doneAnewManyTimes() {
        TakenUpCalls x = Checks.telling("df1n;dx0;");
        for (int v = 1; v <= 100; v++) {
            x.set(0, v);
            x.bring();
        }
        dueDoings(x, 101, 101);
        dueNames(x, 0, 1);
    }

    @Sentence(in = "Terms 2", says = "where it CALLS, of its PARTS so far those behind the one last TAKEN UP are looked at:")
    static void takenUpAllInOrder() {
        TakenUpCalls x = Checks.telling("d+x3+f10+f11f12;dn;");
        x.set(3, 1);
        checks.due("bring()", x.bring(), 4);
        dueCounts(x, 0, 1, 0);
        dueNames(x, 0, 1, 2, 3);
    }

    @Sentence(in = "Terms 2", says = "where it CALLS, of its PARTS so far those behind the one last TAKEN UP are looked at:")
    static void takenUpNoneAheadOfTheLastTakenUp() {
        TakenUpCalls x = three(1, 2, 3);
        setThree(x, 2, 1, 3);
        x.bring();
        dueCounts(x, 1, 1, 1);
        dueNames(x, 0, 2, 4, 3);
    }

    @Sentence(in = "Terms 2", says = "where it CALLS, of its PARTS so far those behind the one last TAKEN UP are looked at:")
    static void takenUpNothingBehindTheLastPart() {
        TakenUpCalls x = three(1, 2, 3);
        setThree(x, 3, 2, 1);
        x.bring();
        dueCounts(x, 2, 1, 2);
        dueNames(x, 0, 3, 4, 5);
    }

    @Sentence(in = "Terms 2", says = "where it CALLS, of its PARTS so far those behind the one last TAKEN UP are looked at:")
    static void takenUpNotWhatThisDoingMade() {
        TakenUpCalls x = three(1, 2, 3);
        setThree(x, 4, 4, 4);
        x.bring();
        dueCounts(x, 3, 1, 3);
        dueNames(x, 0, 4, 5, 6);
    }

    @Sentence(in = "Terms 2", says = "the first of them that is of the same FUNCTION and argument is TAKEN UP:")
    static void takenUpTheFirstOfTwoAlike() {
        TakenUpCalls x = three(1, 1, 2);
        setThree(x, 1, 2, 1);
        x.bring();
        dueCounts(x, 1, 1, 1);
        dueNames(x, 0, 1, 3, 4);
    }

    @Sentence(in = "Terms 2", says = "the first of them that is of the same FUNCTION and argument is TAKEN UP:")
    static void takenUpTheFirstOfThreeAlike() {
        TakenUpCalls x = three(1, 1, 1);
        setThree(x, 0, 1, 0);
        x.bring();
        dueNames(x, 0, 4, 1, 5);
    }

    @Sentence(in = "Terms 2", says = "the first of them that is of the same FUNCTION and argument is TAKEN UP:")
    static void takenUpNotWithAnotherArgument() {
        TakenUpCalls x = Checks.telling("df1x0;d0;");
        x.set(0, 1);
        x.bring();
        dueCounts(x, 1, 1, 1);
        dueNames(x, 0, 2);
    }

    @Sentence(in = "Terms 2", says = "the first of them that is of the same FUNCTION and argument is TAKEN UP:")
    static void takenUpNotOfAnotherFunction() {
        TakenUpCalls x = Checks.telling("d?x0f2nf1n;d0;d0;");
        x.set(0, 1);
        x.bring();
        dueCounts(x, 1, 1, 1);
        dueNames(x, 0, 2);
    }

    @Sentence(in = "Terms 2", says = "it's BROUGHT now, if it was not yet by this bring(), and is the PART;")
    static void takenUpIsBroughtNow() {
        TakenUpCalls x = three(1, 2, 3);
        setThree(x, 2, 3, 4);
        x.set(7, 10);
        checks.due("bring()", x.bring(), 39);
        dueCounts(x, 1, 3, 1);
        dueNames(x, 0, 2, 3, 4);
        dueDoings(x, 2, 2, 2, 1);
    }

    @Sentence(in = "Terms 2", says = "it's BROUGHT now, if it was not yet by this bring(), and is the PART;")
    static void takenUpIsNotBroughtTwice() {
        TakenUpCalls x = Checks.telling("d+f1nf2n;d*0x0;dx0;");
        x.set(0, 5);
        checks.due("bring()", x.bring(), 5);
        dueCounts(x, 0, 3, 0);
        dueDoings(x, 2, 2, 2);
    }

    @Sentence(in = "Terms 2", says = "it's BROUGHT now, if it was not yet by this bring(), and is the PART;")
    static void takenUpIsBroughtAgainByTheNextBring() {
        TakenUpCalls x = Checks.telling("d+x1f1n;dx0;");
        for (int v = 1; v <= 3; v++) {
            x.set(1, v);
            x.set(0, v);
            checks.due("bring() " + v, x.bring(), 2 * v);
            dueCounts(x, 0, 2, 0);
            dueDoings(x, v + 1, v + 1);
        }
    }

    @Sentence(in = "Terms 2", says = "those passed over go.")
    static void passedOverOne() {
        TakenUpCalls x = three(1, 2, 3);
        setThree(x, 2, 3, 4);
        x.bring();
        dueCounts(x, 1, 1, 1);
        checks.due("find(1)", x.find(1), Checks.NONE);
    }

    @Sentence(in = "Terms 2", says = "those passed over go.")
    static void passedOverAllButTheLast() {
        TakenUpCalls x = three(1, 2, 3);
        setThree(x, 3, 1, 2);
        x.bring();
        dueCounts(x, 2, 1, 2);
        dueNames(x, 0, 3, 4, 5);
        checks.due("find(1)", x.find(1), Checks.NONE);
        checks.due("find(2)", x.find(2), Checks.NONE);
    }

    @Sentence(in = "Terms 2", says = "those passed over go.")
    static void passedOverAreNotBrought() {
        TakenUpCalls x = three(1, 2, 3);
        setThree(x, 3, 3, 3);
        x.set(7, 1);
        x.bring();
        dueCounts(x, 2, 2, 2);
    }

    @Sentence(in = "Terms 2", says = "If there is none of them, all stay to be looked at, and a CALL is MADE.")
    static void noneFoundAndAllStay() {
        TakenUpCalls x = three(1, 2, 3);
        setThree(x, 9, 1, 2);
        x.bring();
        dueCounts(x, 1, 1, 1);
        dueNames(x, 0, 4, 1, 2);
    }

    @Sentence(in = "Terms 2", says = "If there is none of them, all stay to be looked at, and a CALL is MADE.")
    static void noneFoundTwiceAndAllStay() {
        TakenUpCalls x = three(1, 2, 3);
        setThree(x, 8, 9, 1);
        x.bring();
        dueCounts(x, 2, 1, 2);
        dueNames(x, 0, 4, 5, 1);
    }

    @Sentence(in = "Terms 2", says = "If there is none of them, all stay to be looked at, and a CALL is MADE.")
    static void noneFoundBehindOneTakenUp() {
        TakenUpCalls x = three(1, 2, 3);
        setThree(x, 1, 9, 3);
        x.bring();
        dueCounts(x, 1, 1, 1);
        dueNames(x, 0, 1, 4, 3);
    }

    @Sentence(in = "Terms 2", says = "If there is none of them, all stay to be looked at, and a CALL is MADE.")
    static void noPartsSoFar() {
        TakenUpCalls x = Checks.telling("d?x0f1n0;d7;");
        x.set(0, 1);
        checks.due("bring()", x.bring(), 7);
        dueCounts(x, 1, 1, 0);
        dueNames(x, 0, 1);
    }

    @Sentence(in = "Terms 2", says = "PARTS not TAKEN UP at the end go.")
    static void notTakenUpTheLast() {
        TakenUpCalls x = Checks.telling("d?x0f1n+f1nf2n;d0;d0;");
        x.set(0, 1);
        x.bring();
        dueCounts(x, 0, 1, 1);
        dueNames(x, 0, 1);
    }

    @Sentence(in = "Terms 2", says = "PARTS not TAKEN UP at the end go.")
    static void notTakenUpAny() {
        TakenUpCalls x = three(1, 2, 3);
        setThree(x, 4, 5, 6);
        x.bring();
        dueCounts(x, 3, 1, 3);
        dueNames(x, 0, 4, 5, 6);
    }

    @Sentence(in = "Terms 2", says = "PARTS not TAKEN UP at the end go.")
    static void notTakenUpAsNoneIsCalled() {
        TakenUpCalls x = Checks.telling("d?x00+f1nf1n;d0;");
        x.set(0, 1);
        x.bring();
        dueCounts(x, 0, 1, 2);
        dueNames(x, 0);
    }

    @Sentence(in = "Terms 2", says = "What goes, goes with all that it holds.")
    static void goneWithoutHoldingMore() {
        TakenUpCalls x = Checks.telling("d?x00f1n;d0;");
        x.set(0, 1);
        x.bring();
        dueCounts(x, 0, 1, 1);
    }

    @Sentence(in = "Terms 2", says = "What goes, goes with all that it holds.")
    static void goneWithAFullTrace() {
        TakenUpCalls x = Checks.telling("d?x00+f0n+f0nf0n;");
        checks.due("CALLS", x.told(3), 364);
        x.set(0, 1);
        x.bring();
        dueCounts(x, 0, 1, 363);
        dueNames(x, 0);
        checks.due("find(363)", x.find(363), Checks.NONE);
        x.set(0, 0);
        x.bring();
        dueCounts(x, 363, 1, 0);
        checks.due("NAME of the last", x.call(363, 3), 363 + 363);
    }

    // ---- functions told, the aim

    @Sentence(in = "Terms 2", says = "FUNCTIONS told: ROOT is a CALL of FUNCTION 0 with argument 0 that is MADE at once.")
    static void rootMadeAtOnce() {
        TakenUpCalls x = Checks.telling("d1;d2;");
        x.aim(1, 996);
        x.bring();
        Checks.tell(x, "d+8n;d3;");
        checks.due("FUNCTION", x.call(0, 0), 0);
        checks.due("argument", x.call(0, 1), 0);
        checks.due("told(2), without bring()", x.told(2), 8);
        dueNames(x, 0);
        dueDoings(x, 1);
        dueCounts(x, 0, 0, 0);
    }

    @Sentence(in = "Terms 2", says = "AIM: a FUNCTION and an argument (0 and 0, as FUNCTIONS are told).")
    static void aimAsFunctionsAreTold() {
        TakenUpCalls x = Checks.telling("d1;d2;");
        checks.dueTold("told", x, 13, 0, 0);
        x.aim(1, 996);
        Checks.tell(x, "d1;d2;");
        checks.dueTold("told anew", x, 13, 0, 0);
    }

    @Sentence(in = "Terms 2", says = "AIM: a FUNCTION and an argument (0 and 0, as FUNCTIONS are told).")
    static void aimStaysWithAFault() {
        TakenUpCalls x = Checks.telling("d1;d2;");
        x.aim(1, 996);
        Checks.tell(x, "d1;d2");
        checks.dueTold("a FAULT", x, 13, 1, 996);
    }

    @Sentence(in = "Terms 2", says = "bring(): if ROOT is of the AIM it is BROUGHT; else it goes with all, and ROOT is MADE, of the AIM.")
    static void rootOfTheAim() {
        TakenUpCalls x = Checks.telling("d+f1nx0;dn;");
        x.aim(1, 5);
        x.aim(0, 0);
        x.set(0, 1);
        checks.due("bring()", x.bring(), 1);
        dueCounts(x, 0, 1, 0);
        dueNames(x, 0, 1);
    }

    @Sentence(in = "Terms 2", says = "bring(): if ROOT is of the AIM it is BROUGHT; else it goes with all, and ROOT is MADE, of the AIM.")
    static void rootOfAnotherArgument() {
        TakenUpCalls x = Checks.telling("d+f1nf10;dn;");
        x.aim(0, 1);
        checks.due("bring()", x.bring(), 1);
        dueCounts(x, 3, 0, 3);
        dueNames(x, 3, 4, 5);
        dueDoings(x, 1, 1, 1);
    }

    @Sentence(in = "Terms 2", says = "bring(): if ROOT is of the AIM it is BROUGHT; else it goes with all, and ROOT is MADE, of the AIM.")
    static void rootOfAnotherFunction() {
        TakenUpCalls x = Checks.telling("d+f1nf10;dn;");
        x.aim(1, 0);
        checks.due("bring()", x.bring(), 0);
        dueCounts(x, 1, 0, 3);
        dueNames(x, 3);
    }

    @Sentence(in = "Terms 2", says = "else it goes with all, and ROOT is MADE, of the AIM.")
    static void rootGoesWithAFullTrace() {
        TakenUpCalls x = Checks.telling(FULL_TRACE);
        x.aim(0, 996);
        x.bring();
        dueCounts(x, 364, 0, 364);
        checks.due("NAME of ROOT", x.call(0, 3), 364);
        checks.due("NAME of the last", x.call(363, 3), 727);
    }
}
