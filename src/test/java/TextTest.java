/** Promises 2 (feed), 3 (functions) and 4 (fault): the text, its faults, and what each kind of term tells. */
public final class TextTest {
    private static final Checks checks = new Checks();

    public static void main(String[] args) {
        feedCounts();
        fullText();
        faults();
        faultPlaces();
        faultsInOrder();
        faultLeavesAllAsItWas();
        terms();
        blanks();
        limits();
        functionsToldAnew();
        functionsNotTold();
        checks.finish();
    }

    private static void feedCounts() {
        TakenUpCalls x = new TakenUpCalls();
        checks.due("feed(0)", x.feed(0), 1);
        checks.due("feed(255)", x.feed(255), 2);
        checks.due("feed(-1)", x.feed(-1), Checks.OUTSIDE);
        checks.due("feed(256)", x.feed(256), Checks.OUTSIDE);
        checks.due("feed(least)", x.feed(Integer.MIN_VALUE), Checks.OUTSIDE);
        checks.due("feed(greatest)", x.feed(Integer.MAX_VALUE), Checks.OUTSIDE);
        checks.due("letters", x.told(1), 2);
        checks.due("feed(32)", x.feed(32), 3);
        checks.due("the functions stay till functions()", x.told(0), 1);
    }

    private static void fullText() {
        TakenUpCalls x = new TakenUpCalls();
        Checks.feedAll(x, "d" + " ".repeat(157) + "7");
        checks.due("letter 160", x.feed(';'), 160);
        checks.due("letter 161", x.feed(' '), Checks.FULL);
        checks.due("letter 161, wrong", x.feed(256), Checks.OUTSIDE);
        checks.due("letters", x.told(1), 160);
        checks.due("full text", x.functions(), 1);
        checks.due("full text tells", x.told(2), 7);
        checks.due("letters then", x.told(1), 0);
        checks.due("feed then", x.feed('d'), 1);
        dueFault(" ".repeat(160), 1, 160);
    }

    private static void dueFault(String text, int fault, int place) {
        TakenUpCalls x = new TakenUpCalls();
        checks.due("'" + text + "'", Checks.tell(x, text), -10 - fault);
        checks.due("'" + text + "' fault()", x.fault(), place);
        checks.due("'" + text + "' letters then", x.told(1), 0);
    }

    private static void faults() {
        dueFault("", 1, 0);
        dueFault("   ", 1, 3);
        dueFault("f5", 1, 0);
        dueFault("df5n;", 2, 2);
        dueFault("df9n;", 2, 2);
        dueFault("d f  6 n;", 2, 5);
        dueFault("d1;d1;d1;d1;d1;d1;", 3, 15);
        dueFault("d1;d1;d1;d1;d1;d", 3, 15);
        dueFault("d1;d1;d1;d1;d1; dd", 3, 16);
        dueFault("d+f0n+f0n+f0nf0n;", 4, 13);
        dueFault("df0f0f0f", 4, 7);
        dueFault("d?nf0n?nf0n?nf0nf9n;", 4, 16);
    }

    private static void faultPlaces() {
        dueFault("d", 1, 1);
        dueFault("d;", 1, 1);
        dueFault("dd0;", 1, 1);
        dueFault("d0", 1, 2);
        dueFault("d0  ", 1, 4);
        dueFault("d0n;", 1, 2);
        dueFault("d0;;", 1, 3);
        dueFault("d0;0", 1, 3);
        dueFault("d+0;", 1, 3);
        dueFault("d?00;", 1, 4);
        dueFault("dx;", 1, 2);
        dueFault("df", 1, 2);
        dueFault("df;", 1, 2);
        dueFault("dff0n;", 1, 2);
        dueFault("dfn;", 1, 2);
        dueFault("df0;", 1, 3);
        dueFault("d12;", 1, 2);
        dueFault("d(0);", 1, 1);
        dueFault("d\t0;", 1, 1);
        dueFault("d\n0;", 1, 1);
        dueFault("D0;", 1, 0);
        dueFault("dN;", 1, 1);
        dueFault("d0;\u0000", 1, 3);
        dueFault("d\u00ff;", 1, 1);
        dueFault("d/;", 1, 1);
        dueFault("d:;", 1, 1);
        dueFault("df/0;", 1, 2);
        dueFault("df:0;", 1, 2);
        dueFault("d>01;", 1, 1);
    }

    /** At one letter the least number counts: a letter that cannot stand there has fault 1, be it a sixth 'd' or a fourth 'f'. */
    private static void faultsInOrder() {
        dueFault("d1;d1;d1;d1;d1d", 1, 14);
        dueFault("d1;d1;d1;d1;dd", 1, 13);
        dueFault("d+f0n+f0nf0nf", 1, 12);
        dueFault("d+f0n+f0nff", 1, 10);
        dueFault("d1;f5;", 1, 3);
        dueFault("d+f0n?f0nf0nf7n;", 4, 12);
        dueFault("d+f7nf0+f0+f0f0n;", 2, 3);
    }

    private static void faultLeavesAllAsItWas() {
        TakenUpCalls x = Checks.telling("d+f1x0x1;dx2;");
        x.set(0, 4);
        x.set(2, 5);
        x.aim(1, 3);
        x.bring();
        x.set(2, 6);
        x.write(0, 0, 9);
        checks.due("fault", Checks.tell(x, "d+1;"), -11);
        checks.due("fault()", x.fault(), 3);
        checks.dueTold("after a fault", x, 0, 2, 0, 5, 1, 6, 0, 1, 0, 2, 3, 1, 1, 4, 1, 3, 1, 0, 4);
        checks.due("after a fault: undo", x.undo(4), 0);
        checks.due("fault() stays by other calls", x.fault(), 3);
        checks.due("functions() of an empty text", x.functions(), -11);
        checks.due("fault() of an empty text", x.fault(), 0);
        checks.due("good", Checks.tell(x, "d1;"), 1);
        checks.due("fault() then", x.fault(), Checks.NONE);
    }

    private static void dueTells(String body, int argument, int want) {
        TakenUpCalls x = Checks.telling("d" + body + ";d+n1;d*nn;");
        for (int i = 0; i < 8; i++) {
            x.set(i, 100 + i);
        }
        x.aim(0, argument);
        checks.due(body + " of " + argument, x.bring(), want);
        checks.due(body + " of " + argument + ", fresh", x.told(4), want);
        checks.due(body + " of " + argument + ", alike", x.told(5), 1);
    }

    private static void terms() {
        dueTells("0", 5, 0);
        dueTells("9", 5, 9);
        dueTells("n", 0, 0);
        dueTells("n", 996, 996);
        dueTells("x0", 0, 100);
        dueTells("x7", 0, 107);
        dueTells("x8", 0, 100);
        dueTells("x9", 0, 101);
        dueTells("xn", 996, 104);
        dueTells("xx3", 0, 107);
        dueTells("+n1", 996, 0);
        dueTells("+n5", 990, 995);
        dueTells("+nn", 996, 995);
        dueTells("-n1", 0, 996);
        dueTells("-1n", 996, 2);
        dueTells("-nn", 12, 0);
        dueTells("-7n", 3, 4);
        dueTells("*nn", 996, 1);
        dueTells("*n9", 200, 803);
        dueTells("<n5", 4, 1);
        dueTells("<n5", 5, 0);
        dueTells("<n5", 6, 0);
        dueTells("?n12", 0, 2);
        dueTells("?n12", 1, 1);
        dueTells("?n12", 996, 1);
        dueTells("f1n", 41, 42);
        dueTells("f1n", 996, 0);
        dueTells("f2f1n", 4, 25);
        dueTells("f1f2n", 4, 17);
        dueTells("f3n", 4, 0);
        dueTells("f4+n1", 4, 0);
        dueTells("-+*nn*93<n4", 6, 63);
        dueTells("-+*nn*93<n4", 3, 35);
        dueTells("+?<n3x1x2?-n3x4x5", 2, 205);
        dueTells("+?<n3x1x2?-n3x4x5", 3, 207);
        dueTells("?n?-n1345", 1, 4);
        dueTells("?n?-n1345", 2, 3);
        dueTells("?n?-n1345", 0, 5);
        dueTells("???n012045", 0, 4);
        dueTells("???n012045", 1, 5);
        dueTells("?+?n10?n01+23-99", 0, 5);
    }

    private static void blanks() {
        TakenUpCalls x = new TakenUpCalls();
        checks.due("blanks", Checks.tell(x, "  d  f  1  +  n  2  ;  d * n  n ;   "), 2);
        checks.due("blanks tell", x.told(2), 4);
        checks.due("blanks fault()", x.fault(), Checks.NONE);
    }

    private static void limits() {
        TakenUpCalls x = new TakenUpCalls();
        checks.due("five functions", Checks.tell(x, "d1;d2;d3;d4;d5;"), 5);
        checks.due("three calls in each of two bodies", Checks.tell(x, "d+f1n+f1nf1n;d+f2n+f2nf2n;d2;"), 3);
        checks.due("three calls in each of two bodies tell", x.told(2), 18);
        String deep = "d" + "x".repeat(157) + "0;";
        checks.due("a deep body", Checks.tell(x, deep), 1);
        x.set(0, 3);
        x.set(3, 5);
        x.set(5, 5);
        checks.due("a deep body tells", x.bring(), 5);
        String wide = "d" + "+1".repeat(78) + "1;";
        checks.due("a wide body", Checks.tell(x, wide), 1);
        checks.due("a wide body tells", x.told(2), 79);
        String left = "d" + "+".repeat(78) + "1".repeat(79) + ";";
        checks.due("a body deep to the left", Checks.tell(x, left), 1);
        checks.due("a body deep to the left tells", x.told(2), 79);
        String choices = "d" + "?1".repeat(52) + "1" + "0".repeat(52) + ";";
        checks.due("choices", Checks.tell(x, choices), 1);
        checks.due("choices tell", x.told(2), 1);
        String nested = "d" + "+1".repeat(77) + "f0n;";
        checks.due("a wide body that calls itself", Checks.tell(x, nested), 1);
        checks.due("a wide body that calls itself tells", x.told(2), 6 * 77);
        String deepCalls = "d" + "x".repeat(154) + "f0n;";
        checks.due("a deep body that calls itself", Checks.tell(x, deepCalls), 1);
        checks.due("a deep body that calls itself, calls", x.told(3), 6);
    }

    private static void functionsToldAnew() {
        TakenUpCalls x = Checks.telling("d+f1x0x1;dn;");
        x.set(0, 7);
        x.set(1, 8);
        x.seed(99);
        x.write(1, 2, 2);
        x.aim(1, 9);
        x.bring();
        checks.due("told anew", Checks.tell(x, "d+f1x0f1x1;d*n2;"), 2);
        checks.dueTold("told anew", x, 0, 2, 0, 30, 3, 30, 1, 0, 0, 0, 3, 2, 0, 3, 0, 0, 1, 0, 0);
        checks.due("told anew: cell(0)", x.cell(0), 7);
        checks.due("told anew: cell(1)", x.cell(1), 8);
        checks.due("told anew: seed", x.seed(1), 99);
        checks.due("told anew: undo(1)", x.undo(1), Checks.NOT);
        checks.dueCall("told anew", x, 0, 0, 0, 30, 0, 1, -1, 1, 3, 2, 3, 0);
        checks.dueCall("told anew", x, 1, 1, 7, 14, 1, 1, 0, 2, 0, 0, 1, 0);
        checks.dueCall("told anew", x, 2, 1, 8, 16, 2, 1, 0, 2, 0, 0, 1, 0);
    }

    private static void functionsNotTold() {
        TakenUpCalls x = Checks.telling("d+f1x0f4x1;");
        x.set(0, 3);
        checks.due("not told: bring()", x.bring(), 0);
        checks.due("not told: no call", x.told(3), 1);
        checks.due("not told: its argument is gone through", x.call(0, 7), 3);
    }
}
