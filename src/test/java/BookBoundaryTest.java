/** The boundaries that promises 14 and 15 name: write, tear. */
public final class BookBoundaryTest {
    private static final int LEAST = Integer.MIN_VALUE;
    private static final int GREATEST = Integer.MAX_VALUE;

    private static final Checks checks = new Checks();

    public static void main(String[] args) {
        Boundaries.run(BookBoundaryTest.class, checks);
        checks.finish();
    }

    private static TakenUpCalls withEntries(int entries) {
        TakenUpCalls x = Checks.telling("dn;");
        for (int e = 0; e < entries; e++) {
            x.write(0, e, e);
        }
        return x;
    }

    // ---- 14: write

    @Sentence(in = "Promise 14", says = "An entry behind THE BOOK (v, any): how many.")
    static void writeTheFirst() {
        TakenUpCalls x = withEntries(0);
        checks.due("write(0, 0, 0)", x.write(0, 0, 0), 1);
        checks.due("entries", x.told(15), 1);
    }

    @Sentence(in = "Promise 14", says = "An entry behind THE BOOK (v, any): how many.")
    static void writeTheTwentieth() {
        TakenUpCalls x = withEntries(19);
        checks.due("write(0, 0, 1)", x.write(0, 0, 1), 20);
        checks.due("it stands behind the others", x.told(16), 19);
    }

    @Sentence(in = "Promise 14", says = "An entry behind THE BOOK (v, any): how many.")
    static void writeTheSameTwice() {
        TakenUpCalls x = withEntries(0);
        x.write(0, 5, 5);
        checks.due("write(0, 5, 5)", x.write(0, 5, 5), 2);
    }

    @Sentence(in = "Promise 14", says = "An entry behind THE BOOK (v, any): how many.")
    static void writeTheLastFunctionAndTheGreatestArgument() {
        TakenUpCalls x = Checks.telling("d0;d0;d0;d0;dn;");
        checks.due("write(4, 996, 996)", x.write(4, 996, 996), 1);
        checks.due("WRONG", x.told(16), Checks.NONE);
    }

    @Sentence(in = "Promise 14", says = "(v, any)")
    static void writeTheLeastAndTheGreatestNumber() {
        TakenUpCalls x = withEntries(0);
        checks.due("write(0, 0, 0)", x.write(0, 0, 0), 1);
        checks.due("write(0, 996, 996)", x.write(0, 996, 996), 2);
        checks.due("WRONG", x.told(16), Checks.NONE);
    }

    @Sentence(in = "Promise 14", says = "(v, any)")
    static void writeWhatIsNoNumber() {
        for (int v : new int[] {-1, 997, LEAST, GREATEST, -1000000001, -1000000002}) {
            TakenUpCalls x = withEntries(0);
            checks.due("write(0, 0, " + v + ")", x.write(0, 0, v), 1);
            checks.due("WRONG with " + v, x.told(16), 0);
        }
    }

    @Sentence(in = "Promise 14", says = "(v, any)")
    static void writeWhatWouldBe0LeftOverBy997() {
        TakenUpCalls x = withEntries(0);
        x.write(0, 0, 997);
        checks.due("997 is not 0", x.told(16), 0);
    }

    @Sentence(in = "Promise 14", says = "UNKNOWN (the FUNCTION is not told), OUTSIDE (the argument), FULL (20).")
    static void writeBelowTheFirstFunction() {
        TakenUpCalls x = withEntries(0);
        checks.due("write(-1, 0, 0)", x.write(-1, 0, 0), Checks.UNKNOWN);
        checks.due("write(least, 0, 0)", x.write(LEAST, 0, 0), Checks.UNKNOWN);
        checks.due("entries", x.told(15), 0);
    }

    @Sentence(in = "Promise 14", says = "UNKNOWN (the FUNCTION is not told), OUTSIDE (the argument), FULL (20).")
    static void writeBehindTheLastToldFunction() {
        TakenUpCalls x = withEntries(0);
        checks.due("write(1, 0, 0)", x.write(1, 0, 0), Checks.UNKNOWN);
        checks.due("write(4, 0, 0)", x.write(4, 0, 0), Checks.UNKNOWN);
        checks.due("write(greatest, 0, 0)", x.write(GREATEST, 0, 0), Checks.UNKNOWN);
        checks.due("entries", x.told(15), 0);
    }

    @Sentence(in = "Promise 14", says = "UNKNOWN (the FUNCTION is not told), OUTSIDE (the argument), FULL (20).")
    static void writeBehindTheFifthFunction() {
        TakenUpCalls x = Checks.telling("d0;d0;d0;d0;d0;");
        checks.due("write(4, 0, 0)", x.write(4, 0, 0), 1);
        checks.due("write(5, 0, 0)", x.write(5, 0, 0), Checks.UNKNOWN);
    }

    @Sentence(in = "Promise 14", says = "UNKNOWN (the FUNCTION is not told), OUTSIDE (the argument), FULL (20).")
    static void writeOfAFunctionNotToldAnyMore() {
        TakenUpCalls x = Checks.telling("d0;d0;");
        checks.due("told", x.write(1, 0, 0), 1);
        Checks.tell(x, "d0;");
        checks.due("not told any more", x.write(1, 0, 0), Checks.UNKNOWN);
        checks.due("entries", x.told(15), 1);
    }

    @Sentence(in = "Promise 14", says = "OUTSIDE (the argument), FULL (20).")
    static void writeBelowTheLeastArgument() {
        TakenUpCalls x = withEntries(0);
        checks.due("write(0, -1, 0)", x.write(0, -1, 0), Checks.OUTSIDE);
        checks.due("write(0, least, 0)", x.write(0, LEAST, 0), Checks.OUTSIDE);
    }

    @Sentence(in = "Promise 14", says = "OUTSIDE (the argument), FULL (20).")
    static void writeAboveTheGreatestArgument() {
        TakenUpCalls x = withEntries(0);
        checks.due("write(0, 997, 0)", x.write(0, 997, 0), Checks.OUTSIDE);
        checks.due("write(0, greatest, 0)", x.write(0, GREATEST, 0), Checks.OUTSIDE);
    }

    @Sentence(in = "Promise 14", says = "FULL (20).")
    static void writeTheTwentyFirst() {
        TakenUpCalls x = withEntries(20);
        checks.due("write(0, 0, 1)", x.write(0, 0, 1), Checks.FULL);
        checks.due("entries", x.told(15), 20);
        checks.due("WRONG", x.told(16), Checks.NONE);
    }

    // ---- 15: tear

    @Sentence(in = "Promise 15", says = "No BOOK: how much it had.")
    static void tearAnEmptyBook() {
        TakenUpCalls x = new TakenUpCalls();
        checks.due("tear()", x.tear(), 0);
        checks.due("entries", x.told(15), 0);
    }

    @Sentence(in = "Promise 15", says = "No BOOK: how much it had.")
    static void tearAFullBook() {
        TakenUpCalls x = withEntries(20);
        checks.due("tear()", x.tear(), 20);
        checks.due("entries", x.told(15), 0);
        checks.due("tear() again", x.tear(), 0);
    }

    @Sentence(in = "Promise 15", says = "No BOOK: how much it had.")
    static void tearAWrongBook() {
        TakenUpCalls x = withEntries(0);
        x.write(0, 0, 1);
        checks.due("tear()", x.tear(), 1);
        checks.due("WRONG", x.told(16), Checks.NONE);
    }

    @Sentence(in = "Promise 15", says = "No BOOK: how much it had.")
    static void tearAndFillAgain() {
        TakenUpCalls x = withEntries(20);
        x.tear();
        for (int e = 1; e <= 20; e++) {
            checks.due("entry " + e, x.write(0, e, 0), e);
        }
        checks.due("entry 21", x.write(0, 0, 0), Checks.FULL);
        checks.due("WRONG", x.told(16), 0);
    }
}
