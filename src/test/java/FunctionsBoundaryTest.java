/** The boundaries that promises 1 to 8 name: a new object, feed, functions, fault, told, cell, call, find. */
public final class FunctionsBoundaryTest {
    private static final String FULL_TRACE = "d+f0x0+f0x0f0x0;";
    private static final int LEAST = Integer.MIN_VALUE;
    private static final int GREATEST = Integer.MAX_VALUE;

    private static final Checks checks = new Checks();

    public static void main(String[] args) {
        Boundaries.run(FunctionsBoundaryTest.class, checks);
        checks.finish();
    }

    // ---- 1: a new object

    @Sentence(in = "Promise 1", says = "As told at first, ROOT MADE.")
    static void newObjectHasRoot() {
        TakenUpCalls x = new TakenUpCalls();
        checks.dueCall("ROOT", x, 0, 0, 0, 0, 0, 1, -1, 1, 0, 0, 1, 0);
        checks.due("there is no other CALL", x.call(1, 0), Checks.UNKNOWN);
    }

    @Sentence(in = "Promise 1", says = "As told at first, ROOT MADE.")
    static void newObjectTellsOfNothing() {
        TakenUpCalls x = new TakenUpCalls();
        checks.dueTold("new", x, 0, 1, 0, 0, 1, 0, 1, 0, 0, 0, 1, 1, 0, 0, 0, 0, 0, -1, 0);
        checks.due("fault()", x.fault(), Checks.NONE);
    }

    @Sentence(in = "Promise 1", says = "As told at first, ROOT MADE.")
    static void newObjectHasCellsOf0() {
        TakenUpCalls x = new TakenUpCalls();
        for (int i = 0; i < 8; i++) {
            checks.due("cell(" + i + ")", x.cell(i), 0);
        }
    }

    @Sentence(in = "Promise 1", says = "As told at first, ROOT MADE.")
    static void newObjectHasSeed0() {
        checks.due("seed(1)", new TakenUpCalls().seed(1), 0);
    }

    @Sentence(in = "Promise 1", says = "As told at first, ROOT MADE.")
    static void newObjectHasNoImages() {
        TakenUpCalls x = new TakenUpCalls();
        checks.due("goBack(0)", x.goBack(0), Checks.NOT);
        checks.due("goBack(1)", x.goBack(1), Checks.NOT);
    }

    @Sentence(in = "Promise 1", says = "As told at first, ROOT MADE.")
    static void newObjectHasNoBookAndNoDeeds() {
        TakenUpCalls x = new TakenUpCalls();
        checks.due("tear()", x.tear(), 0);
        checks.due("undo(1)", x.undo(1), Checks.NOT);
    }

    @Sentence(in = "Promise 1", says = "As told at first, ROOT MADE.")
    static void newObjectHasAnEmptyText() {
        TakenUpCalls x = new TakenUpCalls();
        checks.due("the first letter", x.feed('d'), 1);
        x = new TakenUpCalls();
        checks.due("functions()", x.functions(), -11);
        checks.due("fault()", x.fault(), 0);
    }

    // ---- 2: feed

    @Sentence(in = "Promise 2", says = "A letter (0 .. 255) comes behind THE TEXT: how many it has.")
    static void feedTheLeastLetter() {
        TakenUpCalls x = new TakenUpCalls();
        checks.due("feed(0)", x.feed(0), 1);
        checks.due("letters", x.told(1), 1);
    }

    @Sentence(in = "Promise 2", says = "A letter (0 .. 255) comes behind THE TEXT: how many it has.")
    static void feedTheGreatestLetter() {
        TakenUpCalls x = new TakenUpCalls();
        checks.due("feed(255)", x.feed(255), 1);
        checks.due("letters", x.told(1), 1);
    }

    @Sentence(in = "Promise 2", says = "A letter (0 .. 255) comes behind THE TEXT: how many it has.")
    static void feedBehindTheText() {
        TakenUpCalls x = new TakenUpCalls();
        for (int n = 1; n <= 160; n++) {
            checks.due("letter " + n, x.feed(n == 1 ? 'd' : n == 159 ? '7' : n == 160 ? ';' : ' '), n);
        }
        checks.due("functions()", x.functions(), 1);
        checks.due("told(2)", x.told(2), 7);
    }

    @Sentence(in = "Promise 2", says = "OUTSIDE, FULL (160).")
    static void feedBelowTheLeastLetter() {
        TakenUpCalls x = new TakenUpCalls();
        checks.due("feed(-1)", x.feed(-1), Checks.OUTSIDE);
        checks.due("feed(least)", x.feed(LEAST), Checks.OUTSIDE);
        checks.due("letters", x.told(1), 0);
    }

    @Sentence(in = "Promise 2", says = "OUTSIDE, FULL (160).")
    static void feedAboveTheGreatestLetter() {
        TakenUpCalls x = new TakenUpCalls();
        checks.due("feed(256)", x.feed(256), Checks.OUTSIDE);
        checks.due("feed(greatest)", x.feed(GREATEST), Checks.OUTSIDE);
        checks.due("letters", x.told(1), 0);
    }

    @Sentence(in = "Promise 2", says = "OUTSIDE, FULL (160).")
    static void feedAFullText() {
        TakenUpCalls x = new TakenUpCalls();
        Checks.feedAll(x, " ".repeat(159));
        checks.due("letter 160", x.feed(0), 160);
        checks.due("letter 161", x.feed(0), Checks.FULL);
        checks.due("letter 161 again", x.feed(255), Checks.FULL);
        checks.due("letters", x.told(1), 160);
    }

    @Sentence(in = "Promise 2", says = "OUTSIDE, FULL (160).")
    static void feedOnceAFullTextWasTaken() {
        TakenUpCalls x = new TakenUpCalls();
        Checks.feedAll(x, " ".repeat(161));
        x.functions();
        checks.due("the first letter", x.feed('d'), 1);
    }

    // ---- 3: functions

    @Sentence(in = "Promise 3", says = "THE TEXT (it is empty then, with a FAULT, too) are FUNCTIONS: how many")
    static void functionsOne() {
        TakenUpCalls x = new TakenUpCalls();
        checks.due("functions()", Checks.tell(x, "d7;"), 1);
        checks.due("FUNCTIONS", x.told(0), 1);
        checks.due("told(2)", x.told(2), 7);
    }

    @Sentence(in = "Promise 3", says = "THE TEXT (it is empty then, with a FAULT, too) are FUNCTIONS: how many")
    static void functionsFive() {
        TakenUpCalls x = new TakenUpCalls();
        checks.due("functions()", Checks.tell(x, "d7;d7;d7;d7;d7;"), 5);
        checks.due("FUNCTIONS", x.told(0), 5);
        checks.due("aim(4, 0)", x.aim(4, 0), 1);
        checks.due("aim(5, 0)", x.aim(5, 0), Checks.UNKNOWN);
    }

    @Sentence(in = "Promise 3", says = "THE TEXT (it is empty then, with a FAULT, too) are FUNCTIONS: how many")
    static void functionsFewerThanAhead() {
        TakenUpCalls x = Checks.telling("d7;d7;d7;d7;d7;");
        checks.due("functions()", Checks.tell(x, "d8;"), 1);
        checks.due("FUNCTIONS", x.told(0), 1);
        checks.due("aim(1, 0)", x.aim(1, 0), Checks.UNKNOWN);
    }

    @Sentence(in = "Promise 3", says = "(it is empty then, with a FAULT, too)")
    static void functionsLeaveAnEmptyText() {
        TakenUpCalls x = Checks.telling("d7;");
        checks.due("letters", x.told(1), 0);
        checks.due("functions() again", x.functions(), -11);
    }

    @Sentence(in = "Promise 3", says = "(it is empty then, with a FAULT, too)")
    static void functionsWithAFaultLeaveAnEmptyText() {
        TakenUpCalls x = new TakenUpCalls();
        checks.due("functions()", Checks.tell(x, "d7"), -11);
        checks.due("letters", x.told(1), 0);
        checks.due("the first letter", x.feed(';'), 1);
        checks.due("functions() of it", x.functions(), -11);
        checks.due("fault() of it", x.fault(), 0);
    }

    @Sentence(in = "Promise 3", says = "(CELLS, THE BOOK, THE SEED stay)")
    static void functionsLeaveTheCells() {
        TakenUpCalls x = new TakenUpCalls();
        x.set(0, 1);
        x.set(7, 996);
        Checks.tell(x, "dx7;");
        checks.due("cell(0)", x.cell(0), 1);
        checks.due("cell(7)", x.cell(7), 996);
        checks.due("told(2)", x.told(2), 996);
    }

    @Sentence(in = "Promise 3", says = "(CELLS, THE BOOK, THE SEED stay)")
    static void functionsLeaveTheBook() {
        TakenUpCalls x = Checks.telling("d1;");
        x.write(0, 0, 2);
        Checks.tell(x, "d2;");
        checks.due("entries", x.told(15), 1);
        checks.due("WRONG", x.told(16), Checks.NONE);
    }

    @Sentence(in = "Promise 3", says = "(CELLS, THE BOOK, THE SEED stay)")
    static void functionsLeaveTheSeed() {
        TakenUpCalls x = new TakenUpCalls();
        x.seed(GREATEST);
        Checks.tell(x, "d2;");
        checks.due("THE SEED", x.seed(0), GREATEST);
    }

    @Sentence(in = "Promise 3", says = "-10 less the number of its FAULT (all is as it was).")
    static void functionsWithFault1() {
        checks.due("functions()", Checks.tell(new TakenUpCalls(), ";"), -11);
    }

    @Sentence(in = "Promise 3", says = "-10 less the number of its FAULT (all is as it was).")
    static void functionsWithFault2() {
        checks.due("functions()", Checks.tell(new TakenUpCalls(), "df5n;"), -12);
    }

    @Sentence(in = "Promise 3", says = "-10 less the number of its FAULT (all is as it was).")
    static void functionsWithFault3() {
        checks.due("functions()", Checks.tell(new TakenUpCalls(), "d1;d1;d1;d1;d1;d1;"), -13);
    }

    @Sentence(in = "Promise 3", says = "-10 less the number of its FAULT (all is as it was).")
    static void functionsWithFault4() {
        checks.due("functions()", Checks.tell(new TakenUpCalls(), "df0f0f0f0n;"), -14);
    }

    @Sentence(in = "Promise 3", says = "(all is as it was)")
    static void functionsWithAnyFaultLeaveAllAsItWas() {
        for (String text : new String[] {"", "d8;d", "d8;df5n;", "d8;d1;d1;d1;d1;d1;", "d8;df0f0f0f0n;"}) {
            TakenUpCalls x = worn();
            TakenUpCalls twin = worn();
            Checks.tell(x, text);
            twin.functions();
            checks.dueTrue("all is as it was", Boundaries.all(x).replaceAll("\\| \\d+ \\|", "").equals(Boundaries.all(twin).replaceAll("\\| \\d+ \\|", "")));
            x.set(0, 9);
            twin.set(0, 9);
            checks.due("bring() behind it", x.bring(), twin.bring());
            checks.due("undo() behind it", x.undo(4), twin.undo(4));
            checks.dueTrue("all goes on as it would", Boundaries.all(x).replaceAll("\\| \\d+ \\|", "").equals(Boundaries.all(twin).replaceAll("\\| \\d+ \\|", "")));
        }
    }

    @Sentence(in = "Promise 3", says = "(all is as it was)")
    static void functionsBehindATextThatEndsTooSoonAnywhere() {
        String text = "d?x0+f1n2f2n;d*nf2-n1;d?n-x1n<n+4x2;";
        String want = Boundaries.all(Checks.telling(text));
        for (int cut = 0; cut < text.length(); cut++) {
            TakenUpCalls x = new TakenUpCalls();
            String begun = text.substring(0, cut);
            boolean whole = begun.endsWith(";");
            checks.due("functions() of '" + begun + "'", Checks.tell(x, begun), whole ? begun.split(";").length : -11);
            checks.due("fault() of it", x.fault(), whole ? Checks.NONE : cut);
            checks.due("functions() of all behind '" + begun + "'", Checks.tell(x, text), 3);
            checks.dueTrue("all is as with a new object behind '" + begun + "'", Boundaries.all(x).equals(want));
        }
    }

    @Sentence(in = "Promise 3", says = "(all is as it was)")
    static void functionsBehindEachFault() {
        String text = "d+f1x0x1;dx2;";
        String want = Boundaries.all(Checks.telling(text));
        for (String faulty : new String[] {"d?+n", "d+f0f0f0?nf5", "d1;d1;d1;d1;d1;d", "d+f0n+f0n+f0n+x0f"}) {
            TakenUpCalls x = new TakenUpCalls();
            Checks.tell(x, faulty);
            checks.dueTrue("'" + faulty + "' has a FAULT", x.fault() != Checks.NONE);
            checks.due("functions() behind '" + faulty + "'", Checks.tell(x, text), 2);
            checks.dueTrue("all is as with a new object behind '" + faulty + "'", Boundaries.all(x).equals(want));
        }
    }

    private static TakenUpCalls worn() {
        TakenUpCalls x = Checks.telling("d+f1x0x1;dx2;");
        x.set(0, 4);
        x.set(2, 5);
        x.aim(1, 3);
        x.bring();
        x.aim(0, 3);
        x.write(1, 0, 9);
        x.seed(77);
        return x;
    }

    // ---- 4: fault

    @Sentence(in = "Promise 4", says = "The place (from 0 on) of the letter that has the FAULT of the latest functions(); NONE.")
    static void faultAheadOfAnyFunctions() {
        TakenUpCalls x = new TakenUpCalls();
        checks.due("fault()", x.fault(), Checks.NONE);
        x.feed(0);
        checks.due("fault() of a text not taken yet", x.fault(), Checks.NONE);
    }

    @Sentence(in = "Promise 4", says = "The place (from 0 on) of the letter that has the FAULT of the latest functions(); NONE.")
    static void faultAtPlace0() {
        TakenUpCalls x = new TakenUpCalls();
        Checks.tell(x, "0");
        checks.due("fault()", x.fault(), 0);
    }

    @Sentence(in = "Promise 4", says = "The place (from 0 on) of the letter that has the FAULT of the latest functions(); NONE.")
    static void faultAtPlace159() {
        TakenUpCalls x = new TakenUpCalls();
        Checks.tell(x, "d0;" + " ".repeat(156) + "0");
        checks.due("fault()", x.fault(), 159);
    }

    @Sentence(in = "Promise 4", says = "The place (from 0 on) of the letter that has the FAULT of the latest functions(); NONE.")
    static void faultAtPlace160() {
        TakenUpCalls x = new TakenUpCalls();
        Checks.tell(x, "d0" + " ".repeat(158));
        checks.due("fault()", x.fault(), 160);
    }

    @Sentence(in = "Promise 4", says = "the FAULT of the latest functions(); NONE.")
    static void faultOfTheLatestOfTwo() {
        TakenUpCalls x = new TakenUpCalls();
        Checks.tell(x, "d00");
        checks.due("fault()", x.fault(), 2);
        Checks.tell(x, "dx;");
        checks.due("fault() of the next", x.fault(), 2);
        Checks.tell(x, "d;");
        checks.due("fault() of the one behind", x.fault(), 1);
    }

    @Sentence(in = "Promise 4", says = "the FAULT of the latest functions(); NONE.")
    static void faultNoneOnceFunctionsAreTold() {
        TakenUpCalls x = new TakenUpCalls();
        Checks.tell(x, "d");
        checks.due("fault()", x.fault(), 1);
        Checks.tell(x, "d0;");
        checks.due("fault() then", x.fault(), Checks.NONE);
    }

    @Sentence(in = "Promise 4", says = "the FAULT of the latest functions(); NONE.")
    static void faultStaysByOtherCalls() {
        TakenUpCalls x = new TakenUpCalls();
        Checks.tell(x, "d");
        x.feed('d');
        x.set(0, 1);
        x.bring();
        x.keep(0);
        x.goBack(0);
        checks.due("fault()", x.fault(), 1);
    }

    // ---- 5: told

    @Sentence(in = "Promise 5", says = "0 FUNCTIONS,")
    static void told0() {
        checks.due("one", Checks.telling("d0;").told(0), 1);
        checks.due("five", Checks.telling("d0;d0;d0;d0;d0;").told(0), 5);
    }

    @Sentence(in = "Promise 5", says = "1 letters of THE TEXT,")
    static void told1() {
        TakenUpCalls x = new TakenUpCalls();
        checks.due("none", x.told(1), 0);
        Checks.feedAll(x, " ".repeat(161));
        checks.due("all", x.told(1), 160);
    }

    @Sentence(in = "Promise 5", says = "2 what ROOT tells,")
    static void told2() {
        checks.due("the least", Checks.telling("d0;").told(2), 0);
        checks.due("the greatest", Checks.telling("d-01;").told(2), 996);
    }

    @Sentence(in = "Promise 5", says = "3 CALLS in THE TRACE,")
    static void told3() {
        checks.due("ROOT alone", Checks.telling("d0;").told(3), 1);
        checks.due("as many as can be", Checks.telling(FULL_TRACE).told(3), 364);
    }

    @Sentence(in = "Promise 5", says = "4 FRESH,")
    static void told4() {
        TakenUpCalls x = Checks.telling("d-nx0;");
        checks.due("the least", x.told(4), 0);
        x.set(0, 1);
        checks.due("the greatest", x.told(4), 996);
    }

    @Sentence(in = "Promise 5", says = "5 1 ALIKE, 0 not,")
    static void told5() {
        TakenUpCalls x = Checks.telling("dx0;");
        checks.due("ALIKE", x.told(5), 1);
        x.set(0, 1);
        checks.due("not", x.told(5), 0);
    }

    @Sentence(in = "Promise 5", says = "6 MADE, 7 DONE ANEW, 8 gone, by the latest bring()")
    static void told6To8AtMost() {
        TakenUpCalls x = Checks.telling(FULL_TRACE);
        x.set(0, 1);
        x.bring();
        checks.dueTold("all but ROOT", x, 6, 363, 1, 363);
        x.aim(0, 1);
        x.bring();
        checks.dueTold("all", x, 6, 364, 0, 364);
        x = Checks.telling("d+*0x0+f0n+f0nf0n;");
        x.set(0, 1);
        x.bring();
        checks.dueTold("all DONE ANEW", x, 6, 0, 364, 0);
    }

    @Sentence(in = "Promise 5", says = "6 MADE, 7 DONE ANEW, 8 gone, by the latest bring()")
    static void told6To8OfTheLatestOnly() {
        TakenUpCalls x = Checks.telling("df1x0;d0;");
        x.set(0, 1);
        x.bring();
        checks.dueTold("bring()", x, 6, 1, 1, 1);
        x.set(0, 2);
        checks.dueTold("set() behind it", x, 6, 1, 1, 1);
        x.bring();
        checks.dueTold("the next bring()", x, 6, 1, 1, 1);
        x.bring();
        checks.dueTold("the one behind, with nothing to do", x, 6, 0, 0, 0);
    }

    @Sentence(in = "Promise 5", says = "(how many; 0 ahead of one since FUNCTIONS were told)")
    static void told6To8AheadOfOne() {
        TakenUpCalls x = Checks.telling("df1x0;d0;");
        checks.dueTold("FUNCTIONS told", x, 6, 0, 0, 0);
        x.set(0, 1);
        x.bring();
        Checks.tell(x, "df1x0;d0;");
        checks.dueTold("FUNCTIONS told again", x, 6, 0, 0, 0);
    }

    @Sentence(in = "Promise 5", says = "(how many; 0 ahead of one since FUNCTIONS were told)")
    static void told6To8BehindAFault() {
        TakenUpCalls x = Checks.telling("df1x0;d0;");
        x.set(0, 1);
        x.bring();
        Checks.tell(x, "df1x0;d0");
        checks.dueTold("a FAULT", x, 6, 1, 1, 1);
    }

    @Sentence(in = "Promise 5", says = "9 how many were MADE, ever,")
    static void told9() {
        TakenUpCalls x = new TakenUpCalls();
        checks.due("ROOT", x.told(9), 1);
        Checks.tell(x, FULL_TRACE);
        checks.due("as many as can be at once", x.told(9), 364);
        x.set(0, 1);
        x.bring();
        checks.due("and more", x.told(9), 364 + 363);
        Checks.tell(x, "d0;");
        checks.due("since the FUNCTIONS were told", x.told(9), 1);
    }

    @Sentence(in = "Promise 5", says = "10 the greatest NEST,")
    static void told10() {
        checks.due("the least", Checks.telling("d0;").told(10), 1);
        checks.due("the greatest", Checks.telling("df0n;").told(10), 6);
        checks.due("not the last one's", Checks.telling("d+f1nf2n;df2n;d0;").told(10), 3);
    }

    @Sentence(in = "Promise 5", says = "11 how many are OLD,")
    static void told11() {
        TakenUpCalls x = Checks.telling(FULL_TRACE);
        checks.due("none", x.told(11), 0);
        x.set(0, 1);
        checks.due("all", x.told(11), 364);
    }

    @Sentence(in = "Promise 5", says = "12 BEARS,")
    static void told12() {
        checks.due("none", Checks.telling("d0;").told(12), 0);
        checks.due("all", Checks.telling("d+x0+x1+x2+x3+x4+x5+x6x7;").told(12), 255);
    }

    @Sentence(in = "Promise 5", says = "13 the FUNCTION of the AIM, 14 its argument,")
    static void told13And14() {
        TakenUpCalls x = Checks.telling("d0;d0;d0;d0;d0;");
        checks.dueTold("the least", x, 13, 0, 0);
        x.aim(4, 996);
        checks.dueTold("the greatest", x, 13, 4, 996);
    }

    @Sentence(in = "Promise 5", says = "15 entries of THE BOOK,")
    static void told15() {
        TakenUpCalls x = new TakenUpCalls();
        checks.due("none", x.told(15), 0);
        for (int e = 0; e < 21; e++) {
            x.write(0, 0, 0);
        }
        checks.due("all", x.told(15), 20);
    }

    @Sentence(in = "Promise 5", says = "16 WRONG,")
    static void told16() {
        TakenUpCalls x = new TakenUpCalls();
        checks.due("of an empty BOOK", x.told(16), Checks.NONE);
        for (int e = 0; e < 19; e++) {
            x.write(0, 0, 0);
        }
        checks.due("none", x.told(16), Checks.NONE);
        x.write(0, 0, 1);
        checks.due("the last", x.told(16), 19);
        x.tear();
        x.write(0, 0, 1);
        checks.due("the first", x.told(16), 0);
    }

    @Sentence(in = "Promise 5", says = "17 how many can be undone.")
    static void told17() {
        TakenUpCalls x = new TakenUpCalls();
        checks.due("none", x.told(17), 0);
        for (int v = 1; v <= 16; v++) {
            x.set(0, v);
            checks.due("deed " + v, x.told(17), v);
        }
        x.set(0, 17);
        checks.due("deed 17", x.told(17), 16);
    }

    @Sentence(in = "Promise 5", says = "OUTSIDE.")
    static void toldBelow0() {
        TakenUpCalls x = new TakenUpCalls();
        checks.due("told(-1)", x.told(-1), Checks.OUTSIDE);
        checks.due("told(least)", x.told(LEAST), Checks.OUTSIDE);
    }

    @Sentence(in = "Promise 5", says = "OUTSIDE.")
    static void toldAbove17() {
        TakenUpCalls x = new TakenUpCalls();
        checks.due("told(18)", x.told(18), Checks.OUTSIDE);
        checks.due("told(greatest)", x.told(GREATEST), Checks.OUTSIDE);
    }

    // ---- 6: cell

    @Sentence(in = "Promise 6", says = "What a CELL holds. UNKNOWN.")
    static void cellTheFirst() {
        TakenUpCalls x = new TakenUpCalls();
        checks.due("cell(0)", x.cell(0), 0);
        x.set(0, 996);
        checks.due("cell(0) then", x.cell(0), 996);
    }

    @Sentence(in = "Promise 6", says = "What a CELL holds. UNKNOWN.")
    static void cellTheLast() {
        TakenUpCalls x = new TakenUpCalls();
        checks.due("cell(7)", x.cell(7), 0);
        x.set(7, 996);
        checks.due("cell(7) then", x.cell(7), 996);
    }

    @Sentence(in = "Promise 6", says = "What a CELL holds. UNKNOWN.")
    static void cellBelowTheFirst() {
        TakenUpCalls x = new TakenUpCalls();
        checks.due("cell(-1)", x.cell(-1), Checks.UNKNOWN);
        checks.due("cell(least)", x.cell(LEAST), Checks.UNKNOWN);
    }

    @Sentence(in = "Promise 6", says = "What a CELL holds. UNKNOWN.")
    static void cellBehindTheLast() {
        TakenUpCalls x = new TakenUpCalls();
        checks.due("cell(8)", x.cell(8), Checks.UNKNOWN);
        checks.due("cell(greatest)", x.cell(GREATEST), Checks.UNKNOWN);
    }

    // ---- 7: call

    @Sentence(in = "Promise 7", says = "Of a CALL: what = 0 FUNCTION, 1 argument, 2 what it tells,")
    static void callWithTheGreatestOfEach() {
        TakenUpCalls x = Checks.telling("df4-01;d0;d0;d0;dn;");
        checks.due("FUNCTION", x.call(1, 0), 4);
        checks.due("argument", x.call(1, 1), 996);
        checks.due("what it tells", x.call(1, 2), 996);
    }

    @Sentence(in = "Promise 7", says = "Of a CALL: what = 0 FUNCTION, 1 argument, 2 what it tells,")
    static void callWithTheLeastOfEach() {
        TakenUpCalls x = Checks.telling("d?n0f09;");
        checks.dueCall("ROOT", x, 0, 0, 0, 0);
        checks.dueCall("its PART", x, 1, 0, 9, 0);
    }

    @Sentence(in = "Promise 7", says = "3 NAME, 4 DOINGS,")
    static void callNameAndDoings() {
        TakenUpCalls x = Checks.telling("d+x0f1x1;d0;");
        checks.due("the first NAME", x.call(0, 3), 0);
        checks.due("DOINGS as MADE", x.call(0, 4), 1);
        x.set(1, 1);
        x.bring();
        checks.due("NAME of ROOT", x.call(0, 3), 0);
        checks.due("DOINGS of ROOT", x.call(0, 4), 2);
        checks.due("NAME of the one MADE then", x.call(1, 3), 2);
        checks.due("DOINGS of the one MADE then", x.call(1, 4), 1);
    }

    @Sentence(in = "Promise 7", says = "5 the CALL that made it (NONE: ROOT),")
    static void callThatMadeIt() {
        TakenUpCalls x = Checks.telling("df1n;df2n;d0;");
        checks.due("ROOT", x.call(0, 5), Checks.NONE);
        checks.due("ROOT's PART", x.call(1, 5), 0);
        checks.due("its PART", x.call(2, 5), 1);
    }

    @Sentence(in = "Promise 7", says = "5 the CALL that made it (NONE: ROOT),")
    static void callThatMadeItHasAnotherNumberThen() {
        TakenUpCalls x = Checks.telling("d+?x0f3n0f1n;df2n;d0;d0;");
        checks.due("ahead", x.call(2, 5), 1);
        x.set(0, 1);
        x.bring();
        checks.due("then", x.call(3, 5), 2);
        checks.due("it is the same one", x.call(3, 3), 2);
    }

    @Sentence(in = "Promise 7", says = "6 NEST,")
    static void callNest() {
        TakenUpCalls x = Checks.telling("df0n;");
        checks.due("the least", x.call(0, 6), 1);
        checks.due("the greatest", x.call(5, 6), 6);
    }

    @Sentence(in = "Promise 7", says = "7 CELLS that it READ itself (a SET),")
    static void callRead() {
        checks.due("none", Checks.telling("d0;").call(0, 7), 0);
        checks.due("the first", Checks.telling("dx0;").call(0, 7), 1);
        checks.due("the last", Checks.telling("dx7;").call(0, 7), 128);
        checks.due("all", Checks.telling("d+x0+x1+x2+x3+x4+x5+x6x7;").call(0, 7), 255);
        checks.due("not what its PARTS READ", Checks.telling("df1x0;dx7;").call(0, 7), 1);
    }

    @Sentence(in = "Promise 7", says = "8 PARTS (how many), 9 how many it holds, itself, too,")
    static void callParts() {
        TakenUpCalls x = Checks.telling(FULL_TRACE);
        checks.due("PARTS of ROOT", x.call(0, 8), 3);
        checks.due("ROOT holds", x.call(0, 9), 364);
        checks.due("PARTS of the last", x.call(363, 8), 0);
        checks.due("the last holds", x.call(363, 9), 1);
        checks.due("NEST 5 holds", x.call(360, 9), 4);
    }

    @Sentence(in = "Promise 7", says = "10 1 OLD, 0 not.")
    static void callOld() {
        TakenUpCalls x = Checks.telling("df1n;dx0;");
        checks.due("not", x.call(1, 10), 0);
        x.set(0, 1);
        checks.due("OLD", x.call(1, 10), 1);
        checks.due("what made it is not", x.call(0, 10), 0);
        x.bring();
        checks.due("not any more", x.call(1, 10), 0);
    }

    @Sentence(in = "Promise 7", says = "UNKNOWN, OUTSIDE.")
    static void callBelowTheFirst() {
        TakenUpCalls x = Checks.telling("df1n;d0;");
        checks.due("call(-1, 0)", x.call(-1, 0), Checks.UNKNOWN);
        checks.due("call(least, 10)", x.call(LEAST, 10), Checks.UNKNOWN);
    }

    @Sentence(in = "Promise 7", says = "UNKNOWN, OUTSIDE.")
    static void callBehindTheLast() {
        TakenUpCalls x = Checks.telling("df1n;d0;");
        checks.due("call(1, 0)", x.call(1, 0), 1);
        checks.due("call(2, 0)", x.call(2, 0), Checks.UNKNOWN);
        checks.due("call(greatest, 10)", x.call(GREATEST, 10), Checks.UNKNOWN);
    }

    @Sentence(in = "Promise 7", says = "UNKNOWN, OUTSIDE.")
    static void callBehindTheLastOfATraceThatBecameSmaller() {
        TakenUpCalls x = Checks.telling("d?x00f1n;d0;");
        x.set(0, 1);
        checks.due("call(1, 0) ahead", x.call(1, 0), 1);
        x.bring();
        checks.due("call(1, 0) then", x.call(1, 0), Checks.UNKNOWN);
    }

    @Sentence(in = "Promise 7", says = "UNKNOWN, OUTSIDE.")
    static void callBehindAFullTrace() {
        TakenUpCalls x = Checks.telling(FULL_TRACE);
        checks.due("call(363, 0)", x.call(363, 0), 0);
        checks.due("call(364, 0)", x.call(364, 0), Checks.UNKNOWN);
    }

    @Sentence(in = "Promise 7", says = "UNKNOWN, OUTSIDE.")
    static void callAskedBelow0() {
        TakenUpCalls x = new TakenUpCalls();
        checks.due("call(0, -1)", x.call(0, -1), Checks.OUTSIDE);
        checks.due("call(0, least)", x.call(0, LEAST), Checks.OUTSIDE);
    }

    @Sentence(in = "Promise 7", says = "UNKNOWN, OUTSIDE.")
    static void callAskedAbove10() {
        TakenUpCalls x = new TakenUpCalls();
        checks.due("call(0, 11)", x.call(0, 11), Checks.OUTSIDE);
        checks.due("call(0, greatest)", x.call(0, GREATEST), Checks.OUTSIDE);
    }

    // ---- 8: find

    @Sentence(in = "Promise 8", says = "The CALL with a NAME; NONE: there is none now.")
    static void findTheFirst() {
        checks.due("find(0)", Checks.telling("df1n;d0;").find(0), 0);
    }

    @Sentence(in = "Promise 8", says = "The CALL with a NAME; NONE: there is none now.")
    static void findTheLastOfAFullTrace() {
        TakenUpCalls x = Checks.telling(FULL_TRACE);
        checks.due("find(363)", x.find(363), 363);
        checks.due("find(364)", x.find(364), Checks.NONE);
    }

    @Sentence(in = "Promise 8", says = "The CALL with a NAME; NONE: there is none now.")
    static void findOneWithAnotherNumber() {
        TakenUpCalls x = Checks.telling("d+f1x0f12;d0;");
        x.set(0, 5);
        x.bring();
        checks.due("the one MADE then", x.find(3), 1);
        checks.due("the one that stays", x.find(2), 2);
    }

    @Sentence(in = "Promise 8", says = "NONE: there is none now.")
    static void findOneThatIsGone() {
        TakenUpCalls x = Checks.telling("df1x0;d0;");
        checks.due("ahead", x.find(1), 1);
        x.set(0, 5);
        x.bring();
        checks.due("gone", x.find(1), Checks.NONE);
    }

    @Sentence(in = "Promise 8", says = "NONE: there is none now.")
    static void findRootThatIsGone() {
        TakenUpCalls x = Checks.telling("d0;");
        x.aim(0, 1);
        checks.due("ahead", x.find(0), 0);
        x.bring();
        checks.due("gone", x.find(0), Checks.NONE);
        checks.due("ROOT now", x.find(1), 0);
    }

    @Sentence(in = "Promise 8", says = "NONE: there is none now.")
    static void findOneNotMadeYet() {
        TakenUpCalls x = Checks.telling("df1x0;d0;");
        checks.due("not yet", x.find(2), Checks.NONE);
        x.set(0, 5);
        x.bring();
        checks.due("then", x.find(2), 1);
    }

    @Sentence(in = "Promise 8", says = "NONE: there is none now.")
    static void findNoNameAtAll() {
        TakenUpCalls x = Checks.telling("df1x0;d0;");
        checks.due("find(-1)", x.find(-1), Checks.NONE);
        checks.due("find(least)", x.find(LEAST), Checks.NONE);
        checks.due("find(greatest)", x.find(GREATEST), Checks.NONE);
    }
}
