/** The boundaries that "Terms" 1 names: numbers, cells, texts, terms, faults; each test names its sentence. */
public final class Terms1BoundaryTest {
    private static final Checks checks = new Checks();

    public static void main(String[] args) {
        Boundaries.run(Terms1BoundaryTest.class, checks);
        checks.finish();
    }

    /** The body as function 0, called with the argument; function 1 tells one more, function 2 tells nothing but 996. */
    private static TakenUpCalls made(String body, int argument) {
        TakenUpCalls x = Checks.telling("d" + body + ";d+n1;d-01;");
        for (int i = 0; i < 8; i++) {
            x.set(i, 900 + i);
        }
        x.aim(0, argument);
        x.bring();
        return x;
    }

    private static void dueTells(String body, int argument, int want) {
        checks.due("'" + body + "' of " + argument, made(body, argument).told(2), want);
    }

    private static void dueFault(String text, int fault, int place) {
        TakenUpCalls x = new TakenUpCalls();
        checks.due("functions() of '" + text + "'", Checks.tell(x, text), -10 - fault);
        checks.due("fault() of '" + text + "'", x.fault(), place);
    }

    private static void dueGood(String text, int functions) {
        TakenUpCalls x = new TakenUpCalls();
        checks.due("functions() of '" + text + "'", Checks.tell(x, text), functions);
        checks.due("fault() of '" + text + "'", x.fault(), Checks.NONE);
    }

    // ---- numbers and cells

    @Sentence(in = "Terms 1", says = "NUMBERS are 0 .. 996.")
    static void numberLeast0() {
        TakenUpCalls x = new TakenUpCalls();
        x.set(3, 5);
        checks.due("set(3, 0)", x.set(3, 0), 5);
        checks.due("cell(3)", x.cell(3), 0);
        checks.due("aim(0, 0)", x.aim(0, 0), 0);
        checks.due("write(0, 0, 0)", x.write(0, 0, 0), 1);
    }

    @Sentence(in = "Terms 1", says = "NUMBERS are 0 .. 996.")
    static void numberGreatest996() {
        TakenUpCalls x = new TakenUpCalls();
        checks.due("set(3, 996)", x.set(3, 996), 0);
        checks.due("cell(3)", x.cell(3), 996);
        checks.due("aim(0, 996)", x.aim(0, 996), 1);
        checks.due("write(0, 996, 0)", x.write(0, 996, 0), 1);
    }

    @Sentence(in = "Terms 1", says = "NUMBERS are 0 .. 996.")
    static void numberBelowTheLeast() {
        TakenUpCalls x = new TakenUpCalls();
        checks.due("set(3, -1)", x.set(3, -1), Checks.OUTSIDE);
        checks.due("aim(0, -1)", x.aim(0, -1), Checks.OUTSIDE);
        checks.due("write(0, -1, 0)", x.write(0, -1, 0), Checks.OUTSIDE);
    }

    @Sentence(in = "Terms 1", says = "NUMBERS are 0 .. 996.")
    static void numberAboveTheGreatest() {
        TakenUpCalls x = new TakenUpCalls();
        checks.due("set(3, 997)", x.set(3, 997), Checks.OUTSIDE);
        checks.due("aim(0, 997)", x.aim(0, 997), Checks.OUTSIDE);
        checks.due("write(0, 997, 0)", x.write(0, 997, 0), Checks.OUTSIDE);
    }

    @Sentence(in = "Terms 1", says = "CELLS 0 .. 7 hold a NUMBER each (0 at first).")
    static void cellFirst0() {
        TakenUpCalls x = new TakenUpCalls();
        checks.due("set(0, 996)", x.set(0, 996), 0);
        checks.due("cell(0)", x.cell(0), 996);
    }

    @Sentence(in = "Terms 1", says = "CELLS 0 .. 7 hold a NUMBER each (0 at first).")
    static void cellLast7() {
        TakenUpCalls x = new TakenUpCalls();
        checks.due("set(7, 996)", x.set(7, 996), 0);
        checks.due("cell(7)", x.cell(7), 996);
    }

    @Sentence(in = "Terms 1", says = "CELLS 0 .. 7 hold a NUMBER each (0 at first).")
    static void cellsHoldEachTheirOwn() {
        TakenUpCalls x = new TakenUpCalls();
        for (int i = 0; i < 8; i++) {
            x.set(i, 996 - i);
        }
        for (int i = 0; i < 8; i++) {
            checks.due("cell(" + i + ")", x.cell(i), 996 - i);
        }
    }

    @Sentence(in = "Terms 1", says = "CELLS 0 .. 7 hold a NUMBER each (0 at first).")
    static void cellsHold0AtFirst() {
        TakenUpCalls x = new TakenUpCalls();
        for (int i = 0; i < 8; i++) {
            checks.due("cell(" + i + ")", x.cell(i), 0);
        }
    }

    // ---- how many functions, how many letters

    @Sentence(in = "Terms 1", says = "FUNCTIONS (5 at most) are told in a text")
    static void functionsOneIsTheFewest() {
        dueGood("d1;", 1);
    }

    @Sentence(in = "Terms 1", says = "FUNCTIONS (5 at most) are told in a text")
    static void functionsFiveAreTheMost() {
        dueGood("d1;d2;d3;d4;d5;", 5);
    }

    @Sentence(in = "Terms 1", says = "FUNCTIONS (5 at most) are told in a text")
    static void functionsSixAreTooMany() {
        dueFault("d1;d2;d3;d4;d5;d6;", 3, 15);
    }

    @Sentence(in = "Terms 1", says = "a text (160 letters at most)")
    static void textOf160Letters() {
        TakenUpCalls x = new TakenUpCalls();
        Checks.feedAll(x, "d" + "+1".repeat(78) + "1 ");
        checks.due("letter 160", x.feed(';'), 160);
        checks.due("functions()", x.functions(), 1);
        checks.due("told(2)", x.told(2), 79);
    }

    @Sentence(in = "Terms 1", says = "a text (160 letters at most)")
    static void textOf161Letters() {
        TakenUpCalls x = new TakenUpCalls();
        Checks.feedAll(x, "d" + "+1".repeat(78) + "1  ");
        checks.due("letter 161", x.feed(';'), Checks.FULL);
        checks.due("functions(), its end being lost", x.functions(), -11);
        checks.due("fault()", x.fault(), 160);
    }

    /** A text of 160 letters, blanks ahead of its end where the body is shorter. */
    private static String filled(String body) {
        return "d" + body + " ".repeat(158 - body.length()) + ";";
    }

    private static void dueFilledTells(String body, int want) {
        checks.due("'" + body + "'", Checks.telling(filled(body)).told(2), want);
    }

    @Sentence(in = "Terms 1", says = "a text (160 letters at most)")
    static void textOf160LettersWithAsManyChoicesAsItHolds() {
        dueFilledTells("?".repeat(52) + "0" + "90".repeat(51) + "97", 7);
        dueFilledTells("?1".repeat(52) + "7" + "2".repeat(52), 7);
        dueFilledTells("?02".repeat(52) + "7", 7);
    }

    @Sentence(in = "Terms 1", says = "a text (160 letters at most)")
    static void textOf160LettersWithTermsInTermsAsDeepAsItHolds() {
        TakenUpCalls x = Checks.telling(filled("x".repeat(157) + "0"));
        for (int i = 0; i < 8; i++) {
            x.set(i, i + 1);
        }
        checks.due("CELL 0 tells 1, CELL 1 tells 2 and on, 157 times", x.bring(), 157 % 8);
    }

    @Sentence(in = "Terms 1", says = "a text (160 letters at most)")
    static void textOf160LettersWithSumsBegunInEachOfSixCalls() {
        dueFilledTells("+1".repeat(77) + "f0n", 6 * 77);
        dueFilledTells("+1".repeat(76) + "+f0n1", 6 * 77);
    }

    @Sentence(in = "Terms 1", says = "a text (160 letters at most)")
    static void textsOf160LettersOneBehindTheOther() {
        TakenUpCalls x = new TakenUpCalls();
        String choices = filled("?02".repeat(52) + "7");
        for (int n = 1; n <= 3; n++) {
            checks.due("functions(), time " + n, Checks.tell(x, choices), 1);
            checks.due("told(2), time " + n, x.told(2), 7);
        }
    }

    @Sentence(in = "Terms 1", says = "a text (160 letters at most)")
    static void textOf160LettersBehindTwoWithAFault() {
        TakenUpCalls x = new TakenUpCalls();
        String choices = filled("?02".repeat(52) + "7");
        for (int n = 1; n <= 2; n++) {
            checks.due("functions() without its end, time " + n, Checks.tell(x, choices.replace(';', ' ')), -11);
        }
        checks.due("functions()", Checks.tell(x, choices), 1);
        checks.due("told(2)", x.told(2), 7);
    }

    @Sentence(in = "Terms 1", says = "for each, in order, 'd', its BODY, ';'.")
    static void functionsInOrder() {
        TakenUpCalls x = Checks.telling("d5;d6;d7;d8;d9;");
        for (int f = 0; f < 5; f++) {
            x.aim(f, 0);
            checks.due("FUNCTION " + f, x.bring(), 5 + f);
        }
    }

    @Sentence(in = "Terms 1", says = "for each, in order, 'd', its BODY, ';'.")
    static void functionWithoutD() {
        dueFault("0;", 1, 0);
        dueFault("d0;0;", 1, 3);
    }

    @Sentence(in = "Terms 1", says = "for each, in order, 'd', its BODY, ';'.")
    static void functionWithoutItsEnd() {
        dueFault("d0", 1, 2);
        dueFault("d0d0;", 1, 2);
        dueFault("d0;d0", 1, 5);
    }

    @Sentence(in = "Terms 1", says = "A BODY is one TERM:")
    static void bodyOfNoTerm() {
        dueFault("d;", 1, 1);
        dueFault("d0;d;", 1, 4);
    }

    @Sentence(in = "Terms 1", says = "A BODY is one TERM:")
    static void bodyOfTwoTerms() {
        dueFault("d00;", 1, 2);
        dueFault("dnn;", 1, 2);
        dueFault("d+00n;", 1, 4);
        dueFault("dx0x0;", 1, 3);
    }

    // ---- kinds of terms

    @Sentence(in = "Terms 1", says = "a figure '0' .. '9' (this NUMBER)")
    static void figureLeast() {
        dueTells("0", 5, 0);
    }

    @Sentence(in = "Terms 1", says = "a figure '0' .. '9' (this NUMBER)")
    static void figureGreatest() {
        dueTells("9", 5, 9);
    }

    @Sentence(in = "Terms 1", says = "a figure '0' .. '9' (this NUMBER)")
    static void signsBesideTheFigures() {
        dueFault("d/;", 1, 1);
        dueFault("d:;", 1, 1);
    }

    @Sentence(in = "Terms 1", says = "'n' (the argument)")
    static void argumentLeast() {
        dueTells("n", 0, 0);
    }

    @Sentence(in = "Terms 1", says = "'n' (the argument)")
    static void argumentGreatest() {
        dueTells("n", 996, 996);
    }

    @Sentence(in = "Terms 1", says = "'x' and a TERM (what the CELL holds whose number is what the TERM tells, left over by 8: it is READ)")
    static void readTheFirstCell() {
        dueTells("xn", 0, 900);
        checks.due("READ", made("xn", 0).call(0, 7), 1);
    }

    @Sentence(in = "Terms 1", says = "'x' and a TERM (what the CELL holds whose number is what the TERM tells, left over by 8: it is READ)")
    static void readTheLastCell() {
        dueTells("xn", 7, 907);
        checks.due("READ", made("xn", 7).call(0, 7), 128);
    }

    @Sentence(in = "Terms 1", says = "left over by 8: it is READ)")
    static void readWrapsAroundAt8() {
        dueTells("xn", 8, 900);
        checks.due("READ", made("xn", 8).call(0, 7), 1);
        dueTells("x9", 0, 901);
        dueTells("xn", 15, 907);
        dueTells("xn", 16, 900);
    }

    @Sentence(in = "Terms 1", says = "left over by 8: it is READ)")
    static void readByTheGreatestNumber() {
        dueTells("xn", 996, 904);
        checks.due("READ", made("xn", 996).call(0, 7), 16);
    }

    @Sentence(in = "Terms 1", says = "left over by 8: it is READ)")
    static void readByWhatACellHolds() {
        dueTells("xx7", 0, 903);
        checks.due("READ, both of them", made("xx7", 0).call(0, 7), 128 + 8);
    }

    @Sentence(in = "Terms 1", says = "'f', a figure, a TERM (the FUNCTION of that number is CALLED, with what the TERM tells)")
    static void calledWithTheLeastNumber() {
        TakenUpCalls x = made("f1n", 0);
        checks.due("told(2)", x.told(2), 1);
        checks.due("FUNCTION", x.call(1, 0), 1);
        checks.due("argument", x.call(1, 1), 0);
    }

    @Sentence(in = "Terms 1", says = "'f', a figure, a TERM (the FUNCTION of that number is CALLED, with what the TERM tells)")
    static void calledWithTheGreatestNumber() {
        TakenUpCalls x = made("f1n", 996);
        checks.due("told(2)", x.told(2), 0);
        checks.due("argument", x.call(1, 1), 996);
    }

    @Sentence(in = "Terms 1", says = "'f', a figure, a TERM (the FUNCTION of that number is CALLED, with what the TERM tells)")
    static void calledTheFirstFunction() {
        TakenUpCalls x = Checks.telling("d?n7f09;d8;");
        checks.due("told(2)", x.told(2), 7);
        checks.due("FUNCTION", x.call(1, 0), 0);
        checks.due("argument", x.call(1, 1), 9);
    }

    @Sentence(in = "Terms 1", says = "'f', a figure, a TERM (the FUNCTION of that number is CALLED, with what the TERM tells)")
    static void calledTheFifthFunction() {
        TakenUpCalls x = Checks.telling("df49;d1;d2;d3;d*nn;");
        checks.due("told(2)", x.told(2), 81);
        checks.due("FUNCTION", x.call(1, 0), 4);
    }

    @Sentence(in = "Terms 1", says = "'+', '-', '*' and two TERMS (the sum, the first less the second, the product, left over by 997, so none is below 0)")
    static void sumJustBelow997() {
        dueTells("+n0", 996, 996);
        dueTells("+n1", 995, 996);
        dueTells("+00", 0, 0);
    }

    @Sentence(in = "Terms 1", says = "'+', '-', '*' and two TERMS (the sum, the first less the second, the product, left over by 997, so none is below 0)")
    static void sumWrapsAroundAt997() {
        dueTells("+n1", 996, 0);
        dueTells("+2n", 996, 1);
    }

    @Sentence(in = "Terms 1", says = "'+', '-', '*' and two TERMS (the sum, the first less the second, the product, left over by 997, so none is below 0)")
    static void sumOfTheGreatest() {
        dueTells("+nn", 996, 995);
    }

    @Sentence(in = "Terms 1", says = "the first less the second, the product, left over by 997, so none is below 0)")
    static void lessDownTo0() {
        dueTells("-nn", 996, 0);
        dueTells("-00", 0, 0);
        dueTells("-n0", 996, 996);
    }

    @Sentence(in = "Terms 1", says = "the first less the second, the product, left over by 997, so none is below 0)")
    static void lessWrapsAroundBelow0() {
        dueTells("-01", 0, 996);
        dueTells("-89", 0, 996);
    }

    @Sentence(in = "Terms 1", says = "the first less the second, the product, left over by 997, so none is below 0)")
    static void lessTheGreatest() {
        dueTells("-0n", 996, 1);
        dueTells("-1n", 996, 2);
    }

    @Sentence(in = "Terms 1", says = "the product, left over by 997, so none is below 0)")
    static void productOf0And1() {
        dueTells("*0n", 996, 0);
        dueTells("*n0", 996, 0);
        dueTells("*1n", 996, 996);
    }

    @Sentence(in = "Terms 1", says = "the product, left over by 997, so none is below 0)")
    static void productWrapsAroundAt997() {
        dueTells("*2n", 498, 996);
        dueTells("*2n", 499, 1);
    }

    @Sentence(in = "Terms 1", says = "the product, left over by 997, so none is below 0)")
    static void productOfTheGreatest() {
        dueTells("*nn", 996, 1);
    }

    @Sentence(in = "Terms 1", says = "'<' and two TERMS (1, if the first is less, else 0)")
    static void lessThanByOne() {
        dueTells("<n5", 4, 1);
        dueTells("<n5", 6, 0);
    }

    @Sentence(in = "Terms 1", says = "'<' and two TERMS (1, if the first is less, else 0)")
    static void lessThanOfEquals() {
        dueTells("<n5", 5, 0);
        dueTells("<nn", 996, 0);
        dueTells("<00", 0, 0);
    }

    @Sentence(in = "Terms 1", says = "'<' and two TERMS (1, if the first is less, else 0)")
    static void lessThanOfTheLeastAndTheGreatest() {
        dueTells("<0n", 996, 1);
        dueTells("<n0", 996, 0);
    }

    @Sentence(in = "Terms 1", says = "'?' and three TERMS (if the first tells 0, the third, else the second; the other one is not gone through)")
    static void choiceOf0() {
        dueTells("?n34", 0, 4);
    }

    @Sentence(in = "Terms 1", says = "'?' and three TERMS (if the first tells 0, the third, else the second; the other one is not gone through)")
    static void choiceOf1() {
        dueTells("?n34", 1, 3);
    }

    @Sentence(in = "Terms 1", says = "'?' and three TERMS (if the first tells 0, the third, else the second; the other one is not gone through)")
    static void choiceOfTheGreatest() {
        dueTells("?n34", 996, 3);
    }

    @Sentence(in = "Terms 1", says = "the other one is not gone through)")
    static void choiceDoesNotGoThroughTheSecond() {
        TakenUpCalls x = made("?n+x1f1nx2", 0);
        checks.due("told(2)", x.told(2), 902);
        checks.due("READ", x.call(0, 7), 4);
        checks.due("CALLS", x.told(3), 1);
    }

    @Sentence(in = "Terms 1", says = "the other one is not gone through)")
    static void choiceDoesNotGoThroughTheThird() {
        TakenUpCalls x = made("?nx1+x2f1n", 1);
        checks.due("told(2)", x.told(2), 901);
        checks.due("READ", x.call(0, 7), 2);
        checks.due("CALLS", x.told(3), 1);
    }

    @Sentence(in = "Terms 1", says = "TERMS are gone through from the left.")
    static void termsFromTheLeft() {
        TakenUpCalls x = made("-f21f1n", 4);
        checks.due("told(2)", x.told(2), 991);
        checks.due("the first PART", x.call(1, 0), 2);
        checks.due("the second PART", x.call(2, 0), 1);
    }

    @Sentence(in = "Terms 1", says = "TERMS are gone through from the left.")
    static void termsOfAChoiceFromTheLeft() {
        TakenUpCalls x = made("?f2nf1nf13", 4);
        checks.due("told(2)", x.told(2), 5);
        checks.due("what it chooses by", x.call(1, 0), 2);
        checks.due("what it chose", x.call(2, 1), 4);
    }

    // ---- blanks

    @Sentence(in = "Terms 1", says = "Blanks (32) may stand anywhere, figures being one letter each.")
    static void blanksAheadOfAll() {
        dueGood(" d0;", 1);
        dueGood("   d0;", 1);
    }

    @Sentence(in = "Terms 1", says = "Blanks (32) may stand anywhere, figures being one letter each.")
    static void blanksBehindAll() {
        dueGood("d0; ", 1);
        dueGood("d0;d0;   ", 2);
    }

    @Sentence(in = "Terms 1", says = "Blanks (32) may stand anywhere, figures being one letter each.")
    static void blanksBetweenAnyTwoLetters() {
        TakenUpCalls x = new TakenUpCalls();
        checks.due("functions()", Checks.tell(x, "d ? n x 0 f 1 + n 9 ; d - n 2 ;"), 2);
        checks.due("told(2)", x.told(2), 7);
    }

    @Sentence(in = "Terms 1", says = "Blanks (32) may stand anywhere, figures being one letter each.")
    static void blanksFillATextOf160Letters() {
        TakenUpCalls x = new TakenUpCalls();
        checks.due("functions()", Checks.tell(x, "d" + " ".repeat(157) + "8;"), 1);
        checks.due("told(2)", x.told(2), 8);
    }

    @Sentence(in = "Terms 1", says = "Blanks (32) may stand anywhere, figures being one letter each.")
    static void signsBeside32AreNoBlanks() {
        dueFault("d\u001f0;", 1, 1);
        dueFault("d!0;", 1, 1);
        dueFault("d\t0;", 1, 1);
        dueFault("d0;\n", 1, 3);
        dueFault("d0;\u00a0", 1, 3);
        dueFault("\u0000d0;", 1, 0);
    }

    @Sentence(in = "Terms 1", says = "figures being one letter each.")
    static void twoFiguresAreTwoTerms() {
        dueFault("d12;", 1, 2);
        TakenUpCalls x = Checks.telling("d+12;");
        checks.due("1 and 2", x.told(2), 3);
        x = Checks.telling("d+f123;dn;");
        checks.due("FUNCTION 1 of 2, and 3", x.told(2), 5);
    }

    // ---- faults

    @Sentence(in = "Terms 1", says = "FAULTS, at the first letter that has one (the end at the text's length), of these the least:")
    static void faultAtTheFirstLetter() {
        dueFault("x", 1, 0);
        dueFault("\u00ffd0;", 1, 0);
    }

    @Sentence(in = "Terms 1", says = "FAULTS, at the first letter that has one (the end at the text's length), of these the least:")
    static void faultAtTheLastLetter() {
        dueFault("d0;;", 1, 3);
        dueFault("d0;" + " ".repeat(156) + ";", 1, 159);
    }

    @Sentence(in = "Terms 1", says = "FAULTS, at the first letter that has one (the end at the text's length), of these the least:")
    static void faultOfSeveralTheFirst() {
        dueFault("df7n;f0", 2, 2);
        dueFault("d+f0f0f0f0nf9n;", 4, 8);
        dueFault("d1;d1;d1;d1;d1;df9;", 3, 15);
        dueFault("d;df9n;", 1, 1);
    }

    @Sentence(in = "Terms 1", says = "(the end at the text's length)")
    static void faultAtTheEnd() {
        dueFault("d", 1, 1);
        dueFault("d0", 1, 2);
        dueFault("d+0", 1, 3);
        dueFault("df", 1, 2);
        dueFault("df4", 1, 3);
        dueFault("d0;d", 1, 4);
    }

    @Sentence(in = "Terms 1", says = "(the end at the text's length)")
    static void faultAtTheEndBehindBlanks() {
        dueFault("d0  ", 1, 4);
        dueFault(" d ", 1, 3);
    }

    @Sentence(in = "Terms 1", says = "(the end at the text's length)")
    static void faultAtTheEndOf160Letters() {
        dueFault("d" + "x".repeat(159), 1, 160);
        dueFault("d0" + " ".repeat(158), 1, 160);
        dueFault("d" + "?".repeat(159), 1, 160);
    }

    @Sentence(in = "Terms 1", says = "of these the least: 1 it cannot stand there.")
    static void faultOfASixthDThatCannotStandThere() {
        dueFault("d1;d1;d1;d1;d1d", 1, 14);
        dueFault("d1;d1;d1;d1;d+1d", 1, 15);
    }

    @Sentence(in = "Terms 1", says = "of these the least: 1 it cannot stand there.")
    static void faultOfAFourthFThatCannotStandThere() {
        dueFault("d+f0n+f0nf0nf0n;", 1, 12);
        dueFault("d+f0n+f0nff0n;", 1, 10);
    }

    @Sentence(in = "Terms 1", says = "1 it cannot stand there.")
    static void faultOfALetterThatStandsNowhere() {
        dueFault("\u0000", 1, 0);
        dueFault("d\u00ff;", 1, 1);
        dueFault("dN;", 1, 1);
        dueFault("D0;", 1, 0);
        dueFault("d>01;", 1, 1);
        dueFault("df0\u00ff;", 1, 3);
    }

    @Sentence(in = "Terms 1", says = "1 it cannot stand there.")
    static void faultOfATermThatEndsTooSoon() {
        dueFault("dx;", 1, 2);
        dueFault("df0;", 1, 3);
        dueFault("d+;", 1, 2);
        dueFault("d+1;", 1, 3);
        dueFault("d-1;", 1, 3);
        dueFault("d*1;", 1, 3);
        dueFault("d<1;", 1, 3);
        dueFault("d?1;", 1, 3);
        dueFault("d?11;", 1, 4);
    }

    @Sentence(in = "Terms 1", says = "2 behind 'f' a figure that is none of '0' .. '4'.")
    static void figureBehindFLeast() {
        dueGood("df0n;", 1);
    }

    @Sentence(in = "Terms 1", says = "2 behind 'f' a figure that is none of '0' .. '4'.")
    static void figureBehindFGreatest() {
        dueGood("df4n;", 1);
    }

    @Sentence(in = "Terms 1", says = "2 behind 'f' a figure that is none of '0' .. '4'.")
    static void figureBehindFJustTooLarge() {
        dueFault("df5n;", 2, 2);
    }

    @Sentence(in = "Terms 1", says = "2 behind 'f' a figure that is none of '0' .. '4'.")
    static void figureBehindFLargest() {
        dueFault("df9n;", 2, 2);
        dueFault("d f  9n;", 2, 5);
    }

    @Sentence(in = "Terms 1", says = "2 behind 'f' a figure that is none of '0' .. '4'.")
    static void noFigureBehindF() {
        dueFault("df/n;", 1, 2);
        dueFault("df:n;", 1, 2);
        dueFault("dfn;", 1, 2);
        dueFault("dff0n;", 1, 2);
        dueFault("df;", 1, 2);
    }

    @Sentence(in = "Terms 1", says = "3 a sixth 'd'.")
    static void sixthDAtIt() {
        dueFault("d1;d1;d1;d1;d1;d", 3, 15);
        dueFault("d1;d1;d1;d1;d1;  d1;", 3, 17);
    }

    @Sentence(in = "Terms 1", says = "3 a sixth 'd'.")
    static void behindTheFifthFunctionAnotherLetter() {
        dueFault("d1;d1;d1;d1;d1;1", 1, 15);
        dueGood("d1;d1;d1;d1;d1; ", 5);
    }

    @Sentence(in = "Terms 1", says = "4 a fourth 'f' in one BODY (at it).")
    static void threeCallsInOneBody() {
        dueGood("d+f1n+f1nf1n;d1;", 2);
        dueGood("df1f1f1n;d1;", 2);
    }

    @Sentence(in = "Terms 1", says = "4 a fourth 'f' in one BODY (at it).")
    static void threeCallsInEachOfFiveBodies() {
        dueGood("d+f0n+f0nf0n;d+f0n+f0nf0n;d+f0n+f0nf0n;d+f0n+f0nf0n;d+f0n+f0nf0n;", 5);
    }

    @Sentence(in = "Terms 1", says = "4 a fourth 'f' in one BODY (at it).")
    static void fourthFAtIt() {
        dueFault("d+f0n+f0n+f0nf0n;", 4, 13);
        dueFault("df0f0f0f", 4, 7);
        dueFault("df1f1f1n;df1f1f1f1n;", 4, 16);
    }

    @Sentence(in = "Terms 1", says = "4 a fourth 'f' in one BODY (at it).")
    static void fourthFWhereItIsNeverGoneThrough() {
        dueFault("d?0f1f1f1f1n0;d1;", 4, 9);
    }

    @Sentence(in = "Terms 1", says = "(An empty text, or one of blanks alone, has FAULT 1.)")
    static void emptyText() {
        dueFault("", 1, 0);
    }

    @Sentence(in = "Terms 1", says = "(An empty text, or one of blanks alone, has FAULT 1.)")
    static void textOfOneBlank() {
        dueFault(" ", 1, 1);
    }

    @Sentence(in = "Terms 1", says = "(An empty text, or one of blanks alone, has FAULT 1.)")
    static void textOf160Blanks() {
        dueFault(" ".repeat(160), 1, 160);
    }

    // ---- functions at first, and those not told

    @Sentence(in = "Terms 1", says = "(At first: one FUNCTION, with the BODY '0'.)")
    static void oneFunctionAtFirst() {
        TakenUpCalls x = new TakenUpCalls();
        checks.due("told(0)", x.told(0), 1);
        checks.due("aim(1, 0)", x.aim(1, 0), Checks.UNKNOWN);
        x.aim(0, 996);
        checks.due("it tells 0 of 996", x.bring(), 0);
    }

    @Sentence(in = "Terms 1", says = "A FUNCTION that is not told tells 0, whatever it is CALLED with (that is no CALL).")
    static void notToldOfTheLeastArgument() {
        TakenUpCalls x = Checks.telling("d+5f1n;");
        checks.due("told(2)", x.told(2), 5);
        checks.due("CALLS", x.told(3), 1);
        checks.due("PARTS", x.call(0, 8), 0);
        checks.due("MADE, ever", x.told(9), 1);
    }

    @Sentence(in = "Terms 1", says = "A FUNCTION that is not told tells 0, whatever it is CALLED with (that is no CALL).")
    static void notToldOfTheGreatestArgument() {
        TakenUpCalls x = Checks.telling("d+5f1-01;");
        checks.due("told(2)", x.told(2), 5);
        checks.due("CALLS", x.told(3), 1);
    }

    @Sentence(in = "Terms 1", says = "A FUNCTION that is not told tells 0, whatever it is CALLED with (that is no CALL).")
    static void notToldTheFifthOfFour() {
        TakenUpCalls x = Checks.telling("d+f3nf4n;d1;d2;d3;");
        checks.due("told(2)", x.told(2), 3);
        checks.due("CALLS", x.told(3), 2);
    }

    @Sentence(in = "Terms 1", says = "A FUNCTION that is not told tells 0, whatever it is CALLED with (that is no CALL).")
    static void notToldAnyMore() {
        TakenUpCalls x = Checks.telling("df17;dn;");
        checks.due("told", x.told(2), 7);
        Checks.tell(x, "df17;");
        checks.due("not told any more", x.told(2), 0);
        checks.due("CALLS", x.told(3), 1);
    }
}
