/** Promise 11 (bring) and what terms 2 says of calls: made, brought, done anew, taken up, gone. */
public final class BringTest {
    private static final Checks checks = new Checks();

    public static void main(String[] args) {
        nothingChanged();
        ownReadFirst();
        partsInOrderUntilOneTellsOtherwise();
        partThatTellsTheSame();
        takenUpBehindTheLast();
        passedOverGo();
        allStayIfNoneIsFound();
        takenUpIsBrought();
        takenUpOfEqualOnesTheFirst();
        functionAndArgumentBothCount();
        broughtOnlyOnce();
        argumentsCalledFirst();
        readsAreReplaced();
        setAndSetBack();
        otherAim();
        aimAwayAndBack();
        goneWithAllItHolds();
        nestLimit();
        fullTrace();
        namesStay();
        checks.finish();
    }

    /** The counts of the latest bring(): MADE, DONE ANEW, gone. */
    private static void dueCounts(String when, TakenUpCalls x, int made, int anew, int gone) {
        checks.dueTold(when, x, 6, made, anew, gone);
        checks.due(when + ": fresh", x.told(4), x.told(2));
        checks.due(when + ": alike", x.told(5), 1);
        checks.due(when + ": old", x.told(11), 0);
    }

    /** Names of the calls of the trace, in order. */
    private static void dueNames(String when, TakenUpCalls x, int... names) {
        checks.due(when + ": calls", x.told(3), names.length);
        for (int k = 0; k < names.length; k++) {
            checks.due(when + ": name of " + k, x.call(k, 3), names[k]);
            checks.due(when + ": find(" + names[k] + ")", x.find(names[k]), k);
        }
    }

    private static void dueDoings(String when, TakenUpCalls x, int... doings) {
        for (int k = 0; k < doings.length; k++) {
            checks.due(when + ": doings of " + k, x.call(k, 4), doings[k]);
        }
    }

    private static void nothingChanged() {
        TakenUpCalls x = Checks.telling("d+f1x0f1x1;d+nx2;");
        checks.due("nothing changed", x.bring(), 0);
        dueCounts("nothing changed", x, 0, 0, 0);
        x.set(5, 9);
        checks.due("a cell that none reads", x.bring(), 0);
        dueCounts("a cell that none reads", x, 0, 0, 0);
        dueDoings("a cell that none reads", x, 1, 1, 1);
    }

    /** f1(1) is old, too, but it is not called again: it goes without being done anew. */
    private static void ownReadFirst() {
        TakenUpCalls x = new TakenUpCalls();
        x.set(0, 1);
        Checks.tell(x, "d?x0f11f21;dx1;dx2;");
        x.set(0, 0);
        x.set(1, 5);
        x.set(2, 8);
        checks.due("own read first: old", x.told(11), 2);
        checks.due("own read first", x.bring(), 8);
        dueCounts("own read first", x, 1, 1, 1);
        dueNames("own read first", x, 0, 2);
        dueDoings("own read first", x, 2, 1);
        checks.due("own read first: gone name", x.find(1), Checks.NONE);
    }

    /** The first part tells otherwise: the second isn't brought, as it isn't called again. */
    private static void partsInOrderUntilOneTellsOtherwise() {
        TakenUpCalls x = new TakenUpCalls();
        x.set(0, 1);
        Checks.tell(x, "d?f1nf2nf3n;dx0;dx1;dx2;");
        dueNames("until one tells otherwise, at first", x, 0, 1, 2);
        x.set(0, 0);
        x.set(1, 7);
        x.set(2, 4);
        checks.due("until one tells otherwise", x.bring(), 4);
        dueCounts("until one tells otherwise", x, 1, 2, 1);
        dueNames("until one tells otherwise", x, 0, 1, 3);
        dueDoings("until one tells otherwise", x, 2, 2, 1);
    }

    private static void partThatTellsTheSame() {
        TakenUpCalls x = Checks.telling("d+f1n5;d*x0x1;");
        x.set(0, 6);
        checks.due("tells the same", x.bring(), 5);
        dueCounts("tells the same", x, 0, 1, 0);
        dueDoings("tells the same", x, 1, 2);
        x.set(1, 2);
        checks.due("tells otherwise", x.bring(), 17);
        dueCounts("tells otherwise", x, 0, 2, 0);
        dueDoings("tells otherwise", x, 2, 3);
    }

    /** Arguments of the three calls are what cells 0, 1, 2 hold. */
    private static TakenUpCalls three(int a, int b, int c) {
        TakenUpCalls x = new TakenUpCalls();
        setThree(x, a, b, c);
        Checks.tell(x, "d+f1x0+f1x1f1x2;d+nx7;");
        return x;
    }

    private static void setThree(TakenUpCalls x, int a, int b, int c) {
        x.set(0, a);
        x.set(1, b);
        x.set(2, c);
    }

    private static void takenUpBehindTheLast() {
        TakenUpCalls x = three(1, 2, 3);
        setThree(x, 2, 1, 3);
        checks.due("behind the last", x.bring(), 6);
        dueCounts("behind the last", x, 1, 1, 1);
        dueNames("behind the last", x, 0, 2, 4, 3);
        dueDoings("behind the last", x, 2, 1, 1, 1);
    }

    private static void passedOverGo() {
        TakenUpCalls x = three(1, 2, 3);
        setThree(x, 3, 1, 2);
        checks.due("passed over", x.bring(), 6);
        dueCounts("passed over", x, 2, 1, 2);
        dueNames("passed over", x, 0, 3, 4, 5);
        checks.due("passed over: find(1)", x.find(1), Checks.NONE);
        checks.due("passed over: find(2)", x.find(2), Checks.NONE);
    }

    private static void allStayIfNoneIsFound() {
        TakenUpCalls x = three(1, 2, 3);
        setThree(x, 9, 1, 2);
        checks.due("all stay", x.bring(), 12);
        dueCounts("all stay", x, 1, 1, 1);
        dueNames("all stay", x, 0, 4, 1, 2);
        setThree(x, 1, 8, 2);
        x.bring();
        dueCounts("all stay, one passed over ahead", x, 1, 1, 1);
        dueNames("all stay, one passed over ahead", x, 0, 1, 5, 2);
    }

    private static void takenUpIsBrought() {
        TakenUpCalls x = three(1, 2, 3);
        setThree(x, 2, 3, 4);
        x.set(7, 10);
        checks.due("taken up is brought", x.bring(), 39);
        dueCounts("taken up is brought", x, 1, 3, 1);
        dueNames("taken up is brought", x, 0, 2, 3, 4);
        dueDoings("taken up is brought", x, 2, 2, 2, 1);
    }

    private static void takenUpOfEqualOnesTheFirst() {
        TakenUpCalls x = three(1, 1, 2);
        setThree(x, 1, 2, 1);
        x.bring();
        dueCounts("the first of equal ones", x, 1, 1, 1);
        dueNames("the first of equal ones", x, 0, 1, 3, 4);
        x = three(1, 1, 1);
        setThree(x, 0, 1, 0);
        x.bring();
        dueCounts("the first of three equal ones", x, 2, 1, 2);
        dueNames("the first of three equal ones", x, 0, 4, 1, 5);
    }

    private static void functionAndArgumentBothCount() {
        TakenUpCalls x = Checks.telling("d?x0f2nf1n;dn;dn;");
        x.set(0, 1);
        x.bring();
        dueCounts("another function", x, 1, 1, 1);
        dueNames("another function", x, 0, 2);
    }

    /** Both parts are brought ahead of the root's doing, which takes them up as they are then. */
    private static void broughtOnlyOnce() {
        TakenUpCalls x = Checks.telling("d+f1nf2n;d*x00;dx0;");
        x.set(0, 5);
        checks.due("once", x.bring(), 5);
        dueCounts("once", x, 0, 3, 0);
        dueDoings("once", x, 2, 2, 2);
        x.set(0, 6);
        checks.due("once more", x.bring(), 6);
        dueCounts("once more", x, 0, 3, 0);
        dueDoings("once more", x, 3, 3, 3);
    }

    private static void argumentsCalledFirst() {
        TakenUpCalls x = Checks.telling("df1f2x0;d+n1;d+nx1;");
        dueNames("arguments first", x, 0, 1, 2);
        checks.dueCall("arguments first", x, 1, 2, 0, 0, 1, 1, 0, 2, 2, 0, 1, 0);
        checks.dueCall("arguments first", x, 2, 1, 0, 1, 2, 1, 0, 2, 0, 0, 1, 0);
        x.set(1, 4);
        checks.due("argument otherwise", x.bring(), 5);
        dueCounts("argument otherwise", x, 1, 2, 1);
        dueNames("argument otherwise", x, 0, 1, 3);
    }

    private static void readsAreReplaced() {
        TakenUpCalls x = Checks.telling("d?x0x1x2;");
        checks.due("reads at first", x.call(0, 7), 5);
        x.set(0, 1);
        x.bring();
        checks.due("reads then", x.call(0, 7), 3);
        checks.due("bears then", x.told(12), 3);
        x.set(2, 8);
        checks.due("not read any more: old", x.told(11), 0);
        x.bring();
        dueCounts("not read any more", x, 0, 0, 0);
    }

    private static void setAndSetBack() {
        TakenUpCalls x = Checks.telling("d+x0f1n;dx1;");
        x.set(0, 3);
        x.set(1, 4);
        checks.due("set: old", x.told(11), 2);
        x.set(0, 0);
        x.undo(1);
        x.set(0, 0);
        x.set(1, 0);
        checks.due("set back: old", x.told(11), 0);
        x.bring();
        dueCounts("set back", x, 0, 0, 0);
    }

    private static void otherAim() {
        TakenUpCalls x = Checks.telling("d+f1n+f1nf1n;d+nx0;");
        x.aim(1, 7);
        checks.due("aim: the trace stays", x.told(3), 4);
        checks.due("aim: not alike", x.told(5), 0);
        checks.due("aim: fresh", x.told(4), 7);
        checks.due("other aim", x.bring(), 7);
        dueCounts("other aim", x, 1, 0, 4);
        dueNames("other aim", x, 4);
        checks.dueCall("other aim", x, 0, 1, 7, 7, 4, 1, -1, 1, 1, 0, 1, 0);
        x.aim(1, 8);
        x.bring();
        dueCounts("other argument", x, 1, 0, 1);
        dueNames("other argument", x, 5);
        x.aim(0, 8);
        x.bring();
        dueCounts("other function", x, 4, 0, 1);
        dueNames("other function", x, 6, 7, 8, 9);
        checks.due("made ever", x.told(9), 10);
    }

    private static void aimAwayAndBack() {
        TakenUpCalls x = Checks.telling("d+nx0;");
        x.aim(0, 5);
        x.aim(0, 0);
        x.set(0, 2);
        checks.due("away and back", x.bring(), 2);
        dueCounts("away and back", x, 0, 1, 0);
        dueNames("away and back", x, 0);
    }

    private static void goneWithAllItHolds() {
        TakenUpCalls x = Checks.telling("d?x00+f1nf10;d+f2nf2n;dx5;");
        checks.due("ahead of going", x.told(3), 7);
        x.set(0, 1);
        x.bring();
        dueCounts("gone with all", x, 0, 1, 6);
        dueNames("gone with all", x, 0);
        x.set(0, 0);
        x.bring();
        dueCounts("made once more", x, 6, 1, 0);
        dueNames("made once more", x, 0, 7, 8, 9, 10, 11, 12);
        dueDoings("made once more", x, 3, 1, 1, 1, 1, 1, 1);
    }

    private static void nestLimit() {
        TakenUpCalls x = Checks.telling("d+1f0n;");
        checks.due("nest: tells", x.told(2), 6);
        checks.due("nest: calls", x.told(3), 6);
        checks.due("nest: greatest", x.told(10), 6);
        for (int k = 0; k < 6; k++) {
            checks.dueCall("nest", x, k, 0, 0, 6 - k, k, 1, k - 1, k + 1, 0, k < 5 ? 1 : 0, 6 - k, 0);
        }
        x.bring();
        dueCounts("nest: what has the greatest stays, too", x, 0, 0, 0);
        dueDoings("nest: what has the greatest stays, too", x, 1, 1, 1, 1, 1, 1);
        x = Checks.telling("d+x0f1n;df2n;df3n;df4n;d+x1f0x2;");
        checks.due("nest by five: calls", x.told(3), 6);
        checks.due("the argument of what is not made is not lost", x.call(4, 7), 6);
        x.set(0, 9);
        checks.due("nest by five", x.bring(), 18);
        dueCounts("nest by five", x, 0, 6, 0);
        checks.due("the last one reads, but makes nothing", x.call(5, 8), 0);
    }

    /** The root's calls all have another argument: all that went is there till the end of its doing. */
    private static void fullTrace() {
        TakenUpCalls x = Checks.telling("d+f0x0+f0x0f0x0;");
        checks.due("full: calls", x.told(3), 364);
        checks.due("full: greatest nest", x.told(10), 6);
        checks.due("full: last call", x.call(363, 6), 6);
        checks.due("full: behind the last call", x.call(364, 0), Checks.UNKNOWN);
        for (int v = 1; v < 5; v++) {
            x.set(0, v);
            checks.due("full: old, what can call no more reads all the same", x.told(11), 364);
            x.bring();
            checks.due("full: calls", x.told(3), 364);
            dueCounts("full", x, 363, 1, 363);
            checks.due("full: last name", x.call(363, 3), 364 + 363 * v - 1);
        }
        checks.due("full: made ever", x.told(9), 364 + 4 * 363);
    }

    private static void namesStay() {
        TakenUpCalls x = three(5, 6, 7);
        for (int v = 0; v < 4; v++) {
            setThree(x, 10 + v, 5, 10 - v);
            x.bring();
            checks.due("the name stays", x.call(2, 3), 1);
            checks.due("it is where it is called", x.find(1), 2);
            checks.due("the root's doings", x.call(0, 4), v + 2);
            checks.due("the doings of what stays", x.call(2, 4), 1);
        }
    }
}
