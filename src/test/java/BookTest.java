/** Promises 14 (write) and 15 (tear), and WRONG. */
public final class BookTest {
    private static final Checks checks = new Checks();

    public static void main(String[] args) {
        entries();
        refusals();
        fullBook();
        wrong();
        wrongByItselfWithNestOne();
        functionsNotToldAnyMore();
        anyTelling();
        judgingChangesNothing();
        checks.finish();
    }

    private static void entries() {
        TakenUpCalls x = Checks.telling("dn;d+n1;");
        checks.due("write(0, 0, 0)", x.write(0, 0, 0), 1);
        checks.due("write(1, 996, 0)", x.write(1, 996, 0), 2);
        checks.due("the same again", x.write(1, 996, 0), 3);
        checks.due("entries", x.told(15), 3);
        checks.due("none wrong", x.told(16), Checks.NONE);
        checks.due("tear()", x.tear(), 3);
        checks.due("tear() again", x.tear(), 0);
        checks.due("no entries", x.told(15), 0);
        checks.due("write after it", x.write(0, 1, 2), 1);
        checks.due("it is judged", x.told(16), 0);
    }

    private static void refusals() {
        TakenUpCalls x = Checks.telling("dn;d+n1;");
        checks.due("write(2, 0, 0)", x.write(2, 0, 0), Checks.UNKNOWN);
        checks.due("write(-1, 0, 0)", x.write(-1, 0, 0), Checks.UNKNOWN);
        checks.due("write(2, 997, 0)", x.write(2, 997, 0), Checks.UNKNOWN);
        checks.due("write(0, 997, 0)", x.write(0, 997, 0), Checks.OUTSIDE);
        checks.due("write(0, -1, 0)", x.write(0, -1, 0), Checks.OUTSIDE);
        checks.due("entries", x.told(15), 0);
    }

    private static void fullBook() {
        TakenUpCalls x = Checks.telling("dn;");
        for (int e = 1; e <= 20; e++) {
            checks.due("entry " + e, x.write(0, e, e), e);
        }
        checks.due("entry 21", x.write(0, 0, 0), Checks.FULL);
        checks.due("entry 21, not told", x.write(1, 0, 0), Checks.UNKNOWN);
        checks.due("entry 21, outside", x.write(0, 997, 0), Checks.OUTSIDE);
        checks.due("entries", x.told(15), 20);
        checks.due("none wrong", x.told(16), Checks.NONE);
        x.tear();
        for (int e = 0; e < 20; e++) {
            x.write(0, e, e == 19 ? 0 : e);
        }
        checks.due("the last is wrong", x.told(16), 19);
    }

    private static void wrong() {
        TakenUpCalls x = Checks.telling("d+f1nx0;d*nx1;");
        x.write(0, 5, 0);
        x.write(1, 5, 0);
        x.write(0, 7, 0);
        checks.due("none wrong", x.told(16), Checks.NONE);
        x.set(1, 3);
        checks.due("without bring()", x.told(16), 0);
        x.tear();
        x.write(1, 5, 15);
        x.write(0, 7, 22);
        x.write(0, 8, 23);
        checks.due("the first that is otherwise", x.told(16), 1);
        x.set(0, 1);
        checks.due("as cells hold now", x.told(16), 2);
        x.undo(1);
        checks.due("undone", x.told(16), 1);
    }

    private static void wrongByItselfWithNestOne() {
        TakenUpCalls x = Checks.telling("d+1f0n;d+1f0n;");
        x.write(0, 0, 6);
        x.write(1, 0, 6);
        checks.due("nest 1", x.told(16), Checks.NONE);
        x.write(0, 0, 5);
        checks.due("not nest 2", x.told(16), 2);
    }

    private static void functionsNotToldAnyMore() {
        TakenUpCalls x = Checks.telling("dn;d5;d6;");
        x.write(1, 3, 5);
        x.write(2, 3, 0);
        x.write(0, 3, 3);
        checks.due("told", x.told(16), 1);
        Checks.tell(x, "dn;d5;");
        checks.due("the book stays", x.told(15), 3);
        checks.due("not told any more: 0", x.told(16), Checks.NONE);
        Checks.tell(x, "dn;");
        checks.due("not told any more: not 5", x.told(16), 0);
        Checks.tell(x, "d+n1;d5;d0;");
        checks.due("told otherwise", x.told(16), 2);
    }

    private static void anyTelling() {
        TakenUpCalls x = Checks.telling("dn;");
        checks.due("least", x.write(0, 0, Integer.MIN_VALUE), 1);
        checks.due("least is wrong", x.told(16), 0);
        x.tear();
        checks.due("greatest", x.write(0, 0, Integer.MAX_VALUE), 1);
        checks.due("greatest is wrong", x.told(16), 0);
        x.tear();
        checks.due("997", x.write(0, 0, 997), 1);
        checks.due("997 is wrong", x.told(16), 0);
    }

    private static void judgingChangesNothing() {
        TakenUpCalls x = Checks.telling("d+f1nf1x0;d+nx1;");
        x.write(0, 1, 1);
        x.write(1, 4, 4);
        checks.due("judged", x.told(16), Checks.NONE);
        checks.due("made ever", x.told(9), 3);
        checks.due("calls", x.told(3), 3);
        checks.dueTold("counts", x, 6, 0, 0, 0);
        x.set(0, 6);
        x.told(16);
        x.bring();
        checks.due("the names go on", x.call(2, 3), 3);
    }
}
