import java.util.function.ToIntFunction;

/** The boundaries named ahead of "Terms" 1: numbers from 0 on, sets, the refusals, their order, and that they change nothing; the 512 calls. */
public final class RefusalsBoundaryTest {
    private static final String ORDER = "REFUSALS, of several the first in this order: UNKNOWN (a FUNCTION, CELL, CALL, IMAGE that there is not),"
        + " OUTSIDE (another number out of its bounds), NOT (not now, as told), FULL.";

    private static final Checks checks = new Checks();

    public static void main(String[] args) {
        Boundaries.run(RefusalsBoundaryTest.class, checks);
        checks.finish();
    }

    /** Something of everything: a text begun, deeds, an image, an entry, a trace that is not up to date. */
    private static TakenUpCalls worn() {
        TakenUpCalls x = Checks.telling("d+f1x0x1;dx2;");
        x.set(0, 4);
        x.keep(0);
        x.set(2, 5);
        x.bring();
        x.aim(1, 3);
        x.set(2, 6);
        x.seed(77);
        x.write(1, 0, 6);
        Checks.feedAll(x, "d7;");
        return x;
    }

    private static TakenUpCalls wornWithAFullText() {
        TakenUpCalls x = worn();
        Checks.feedAll(x, " ".repeat(157));
        return x;
    }

    private static TakenUpCalls wornWithAFullBook() {
        TakenUpCalls x = worn();
        for (int e = 1; e < 20; e++) {
            x.write(1, e, 6);
        }
        return x;
    }

    private static void dueRefused(int refusal, ToIntFunction<TakenUpCalls> refused) {
        Boundaries.dueRefused(checks, refusal, RefusalsBoundaryTest::worn, refused);
    }

    // ---- the constants

    @Sentence(in = "The public face", says = "NONE = -1, UNKNOWN = -1000000001, OUTSIDE = -1000000002, NOT = -1000000003, FULL = -1000000004;")
    static void constants() {
        checks.due("NONE", TakenUpCalls.NONE, -1);
        checks.due("UNKNOWN", TakenUpCalls.UNKNOWN, -1000000001);
        checks.due("OUTSIDE", TakenUpCalls.OUTSIDE, -1000000002);
        checks.due("NOT", TakenUpCalls.NOT, -1000000003);
        checks.due("FULL", TakenUpCalls.FULL, -1000000004);
    }

    @Sentence(in = "Terms", says = "They are far below all that is counted: -1000000001 and on.")
    static void refusalsAreFarBelowTheFaults() {
        TakenUpCalls x = new TakenUpCalls();
        checks.due("UNKNOWN", x.cell(8), -1000000001);
        checks.due("OUTSIDE", x.told(18), -1000000002);
        checks.due("NOT", x.undo(1), -1000000003);
        Checks.feedAll(x, " ".repeat(160));
        checks.due("FULL", x.feed(0), -1000000004);
        checks.due("a FAULT is no refusal", x.functions(), -11);
    }

    // ---- numbers and sets

    @Sentence(in = "Terms", says = "What has a number has it from 0 on.")
    static void numbersFrom0On() {
        TakenUpCalls x = Checks.telling("d5;d6;");
        checks.due("FUNCTION 0", x.aim(0, 0), 0);
        checks.due("CELL 0", x.cell(0), 0);
        checks.due("CALL 0", x.call(0, 2), 5);
        checks.due("NAME 0", x.find(0), 0);
        checks.due("IMAGE 0", x.keep(0), 1);
        x.write(0, 0, 4);
        checks.due("entry 0", x.told(16), 0);
        Checks.tell(x, "0");
        checks.due("place 0", x.fault(), 0);
    }

    @Sentence(in = "Terms", says = "A SET is a whole number, bit k for k.")
    static void setEmpty() {
        TakenUpCalls x = new TakenUpCalls();
        checks.due("call(0, 7)", x.call(0, 7), 0);
        checks.due("told(12)", x.told(12), 0);
    }

    @Sentence(in = "Terms", says = "A SET is a whole number, bit k for k.")
    static void setOfOneEach() {
        for (int i = 0; i < 8; i++) {
            TakenUpCalls x = Checks.telling("dx" + i + ";");
            checks.due("call(0, 7) of CELL " + i, x.call(0, 7), 1 << i);
            checks.due("told(12) of CELL " + i, x.told(12), 1 << i);
        }
    }

    @Sentence(in = "Terms", says = "A SET is a whole number, bit k for k.")
    static void setOfAll() {
        TakenUpCalls x = Checks.telling("d+x7+x6+x5+x4+x3+x2+x1x0;");
        checks.due("call(0, 7)", x.call(0, 7), 255);
        checks.due("told(12)", x.told(12), 255);
    }

    @Sentence(in = "Terms", says = "NONE is -1.")
    static void noneIsMinus1() {
        TakenUpCalls x = new TakenUpCalls();
        checks.due("fault()", x.fault(), -1);
        checks.due("find(1)", x.find(1), -1);
        checks.due("call(0, 5)", x.call(0, 5), -1);
        checks.due("told(16)", x.told(16), -1);
    }

    // ---- of several the first

    @Sentence(in = "Terms", says = ORDER)
    static void unknownAheadOfOutside() {
        TakenUpCalls x = new TakenUpCalls();
        checks.due("call(1, 11)", x.call(1, 11), Checks.UNKNOWN);
        checks.due("call(-1, -1)", x.call(-1, -1), Checks.UNKNOWN);
        checks.due("set(8, 997)", x.set(8, 997), Checks.UNKNOWN);
        checks.due("set(-1, -1)", x.set(-1, -1), Checks.UNKNOWN);
        checks.due("aim(1, 997)", x.aim(1, 997), Checks.UNKNOWN);
        checks.due("aim(-1, -1)", x.aim(-1, -1), Checks.UNKNOWN);
        checks.due("write(1, 997, 0)", x.write(1, 997, 0), Checks.UNKNOWN);
        checks.due("write(-1, -1, 0)", x.write(-1, -1, 0), Checks.UNKNOWN);
    }

    @Sentence(in = "Terms", says = ORDER)
    static void unknownAheadOfNot() {
        TakenUpCalls x = new TakenUpCalls();
        checks.due("goBack(2), with none kept", x.goBack(2), Checks.UNKNOWN);
        checks.due("goBack(-1), with none kept", x.goBack(-1), Checks.UNKNOWN);
    }

    @Sentence(in = "Terms", says = ORDER)
    static void unknownAheadOfFull() {
        TakenUpCalls x = wornWithAFullBook();
        checks.due("write(2, 0, 0)", x.write(2, 0, 0), Checks.UNKNOWN);
        checks.due("write(2, 997, 0)", x.write(2, 997, 0), Checks.UNKNOWN);
    }

    @Sentence(in = "Terms", says = ORDER)
    static void outsideAheadOfNot() {
        TakenUpCalls x = new TakenUpCalls();
        checks.due("undo(17), with nothing to undo", x.undo(17), Checks.OUTSIDE);
        checks.due("undo(0), with nothing to undo", x.undo(0), Checks.OUTSIDE);
    }

    @Sentence(in = "Terms", says = ORDER)
    static void outsideAheadOfFullText() {
        TakenUpCalls x = wornWithAFullText();
        checks.due("feed(256)", x.feed(256), Checks.OUTSIDE);
        checks.due("feed(-1)", x.feed(-1), Checks.OUTSIDE);
        checks.due("feed(255)", x.feed(255), Checks.FULL);
    }

    @Sentence(in = "Terms", says = ORDER)
    static void outsideAheadOfFullBook() {
        TakenUpCalls x = wornWithAFullBook();
        checks.due("write(0, 997, 0)", x.write(0, 997, 0), Checks.OUTSIDE);
        checks.due("write(0, -1, 0)", x.write(0, -1, 0), Checks.OUTSIDE);
        checks.due("write(0, 996, 0)", x.write(0, 996, 0), Checks.FULL);
    }

    // ---- what is refused

    @Sentence(in = "Terms", says = "What is refused changes nothing.")
    static void feedOutsideChangesNothing() {
        dueRefused(Checks.OUTSIDE, x -> x.feed(256));
        dueRefused(Checks.OUTSIDE, x -> x.feed(-1));
    }

    @Sentence(in = "Terms", says = "What is refused changes nothing.")
    static void feedFullChangesNothing() {
        Boundaries.dueRefused(checks, Checks.FULL, RefusalsBoundaryTest::wornWithAFullText, x -> x.feed('d'));
    }

    @Sentence(in = "Terms", says = "What is refused changes nothing.")
    static void toldOutsideChangesNothing() {
        dueRefused(Checks.OUTSIDE, x -> x.told(18));
    }

    @Sentence(in = "Terms", says = "What is refused changes nothing.")
    static void cellUnknownChangesNothing() {
        dueRefused(Checks.UNKNOWN, x -> x.cell(8));
    }

    @Sentence(in = "Terms", says = "What is refused changes nothing.")
    static void callUnknownChangesNothing() {
        dueRefused(Checks.UNKNOWN, x -> x.call(2, 0));
    }

    @Sentence(in = "Terms", says = "What is refused changes nothing.")
    static void callOutsideChangesNothing() {
        dueRefused(Checks.OUTSIDE, x -> x.call(0, 11));
    }

    @Sentence(in = "Terms", says = "What is refused changes nothing.")
    static void setUnknownChangesNothing() {
        dueRefused(Checks.UNKNOWN, x -> x.set(8, 1));
        dueRefused(Checks.UNKNOWN, x -> x.set(-1, 1));
    }

    @Sentence(in = "Terms", says = "What is refused changes nothing.")
    static void setOutsideChangesNothing() {
        dueRefused(Checks.OUTSIDE, x -> x.set(0, 997));
        dueRefused(Checks.OUTSIDE, x -> x.set(0, -1));
    }

    @Sentence(in = "Terms", says = "What is refused changes nothing.")
    static void aimUnknownChangesNothing() {
        dueRefused(Checks.UNKNOWN, x -> x.aim(2, 1));
        dueRefused(Checks.UNKNOWN, x -> x.aim(-1, 1));
    }

    @Sentence(in = "Terms", says = "What is refused changes nothing.")
    static void aimOutsideChangesNothing() {
        dueRefused(Checks.OUTSIDE, x -> x.aim(0, 997));
        dueRefused(Checks.OUTSIDE, x -> x.aim(0, -1));
    }

    @Sentence(in = "Terms", says = "What is refused changes nothing.")
    static void driftOutsideChangesNothing() {
        dueRefused(Checks.OUTSIDE, x -> x.drift(0));
        dueRefused(Checks.OUTSIDE, x -> x.drift(13));
    }

    @Sentence(in = "Terms", says = "What is refused changes nothing.")
    static void undoOutsideChangesNothing() {
        dueRefused(Checks.OUTSIDE, x -> x.undo(0));
        dueRefused(Checks.OUTSIDE, x -> x.undo(17));
    }

    @Sentence(in = "Terms", says = "What is refused changes nothing.")
    static void undoNotSoManyChangesNothing() {
        dueRefused(Checks.NOT, x -> x.undo(4));
        dueRefused(Checks.NOT, x -> x.undo(16));
    }

    @Sentence(in = "Terms", says = "What is refused changes nothing.")
    static void writeUnknownChangesNothing() {
        dueRefused(Checks.UNKNOWN, x -> x.write(2, 0, 0));
    }

    @Sentence(in = "Terms", says = "What is refused changes nothing.")
    static void writeOutsideChangesNothing() {
        dueRefused(Checks.OUTSIDE, x -> x.write(0, 997, 0));
        dueRefused(Checks.OUTSIDE, x -> x.write(0, -1, 0));
    }

    @Sentence(in = "Terms", says = "What is refused changes nothing.")
    static void writeFullChangesNothing() {
        Boundaries.dueRefused(checks, Checks.FULL, RefusalsBoundaryTest::wornWithAFullBook, x -> x.write(0, 0, 0));
    }

    @Sentence(in = "Terms", says = "What is refused changes nothing.")
    static void seedOutsideChangesNothing() {
        dueRefused(Checks.OUTSIDE, x -> x.seed(-1));
    }

    @Sentence(in = "Terms", says = "What is refused changes nothing.")
    static void keepUnknownChangesNothing() {
        dueRefused(Checks.UNKNOWN, x -> x.keep(2));
        dueRefused(Checks.UNKNOWN, x -> x.keep(-1));
    }

    @Sentence(in = "Terms", says = "What is refused changes nothing.")
    static void goBackUnknownChangesNothing() {
        dueRefused(Checks.UNKNOWN, x -> x.goBack(2));
        dueRefused(Checks.UNKNOWN, x -> x.goBack(-1));
    }

    @Sentence(in = "Terms", says = "What is refused changes nothing.")
    static void goBackNotKeptChangesNothing() {
        dueRefused(Checks.NOT, x -> x.goBack(1));
    }

    @Sentence(in = "Terms", says = "What is refused changes nothing.")
    static void goBackNotToldNowChangesNothing() {
        Boundaries.dueRefused(checks, Checks.NOT, RefusalsBoundaryTest::wornWithAnImageNotToldNow, x -> x.goBack(1));
    }

    private static TakenUpCalls wornWithAnImageNotToldNow() {
        TakenUpCalls x = worn();
        x.keep(1);
        x.functions();
        x.set(2, 8);
        x.aim(0, 5);
        return x;
    }

    // ---- the 512 calls

    @Sentence(in = "What it is", says = "An object is used for at most 512 calls after it has been made;")
    static void the512thCall() {
        TakenUpCalls x = new TakenUpCalls();
        int calls = 0;
        for (String letter : "d + x 0 f 0 x 1 ;".split(" ")) {
            x.feed(letter.charAt(0));
            calls++;
        }
        x.functions();
        calls++;
        while (calls < 508) {
            x.set(calls % 2, calls % 997);
            x.bring();
            calls += 2;
        }
        checks.due("calls so far", calls, 508);
        x.set(0, 100);
        x.set(1, 200);
        checks.due("call 511", x.bring(), 600);
        checks.due("call 512", x.told(5), 1);
    }

    @Sentence(in = "What it is", says = "An object is used for at most 512 calls after it has been made; what later calls answer is free.")
    static void behindThe512thCall() {
        TakenUpCalls x = Checks.telling("d+f0x0+f0x0f0x0;");
        long answers = 0;
        for (int k = 0; k < 3000; k++) {
            answers += x.set(0, k % 997) + x.bring() + x.told(5) + x.undo(1 + k % 16);
        }
        checks.dueTrue("every call came to its end, whatever it answered: " + answers, true);
    }
}
