/** What the document's first lines, "What it is", and the first words of "Terms" say, clause by clause. */
public final class OverviewBoundaryTest {
    /** Function 0 calls function 1 of what cell 1 holds; this one calls function 2, which chooses by cell 2. */
    private static final String THREE = "d+x0f1x1; d*n+f2n1; d?x2nx3;";
    /** Function 0 calls function 1 of what cell 0 holds, and of what cell 1 holds and 5. */
    private static final String TWO_PARTS = "d+f1x0f1+x1 5; d*nx2;";

    private static final Checks checks = new Checks();

    public static void main(String[] args) {
        Boundaries.run(OverviewBoundaryTest.class, checks);
        checks.finish();
    }

    @Sentence(in = "What it is", says = "A few functions told in a text, that call one another, read cells and choose;")
    static void functionsCallReadAndChoose() {
        TakenUpCalls x = new TakenUpCalls();
        checks.due("functions()", Checks.tell(x, THREE), 3);
        x.set(0, 100);
        x.set(1, 6);
        x.set(3, 4);
        checks.due("100 and 6 times (what cell 3 holds and 1)", x.bring(), 130);
        x.set(2, 1);
        checks.due("100 and 6 times (the argument and 1)", x.bring(), 142);
    }

    @Sentence(in = "What it is", says = "one call of one of them is made, and all calls that it makes are kept, in order, with what each of them read and told;")
    static void allCallsAreKeptInOrder() {
        TakenUpCalls x = new TakenUpCalls();
        x.set(0, 100);
        x.set(1, 6);
        x.set(3, 4);
        Checks.tell(x, THREE);
        checks.due("calls", x.told(3), 3);
        checks.dueCall("the root", x, 0, 0, 0, 130, 0, 1, -1, 1, 1 << 0 | 1 << 1, 1, 3, 0);
        checks.dueCall("its part", x, 1, 1, 6, 30, 1, 1, 0, 2, 0, 1, 2, 0);
        checks.dueCall("the part of this", x, 2, 2, 6, 4, 2, 1, 1, 3, 1 << 2 | 1 << 3, 0, 1, 0);
    }

    @Sentence(in = "What it is", says = "then cells are set, and all is brought up to date without being done again:")
    static void broughtUpToDateWithoutBeingDoneAgain() {
        TakenUpCalls x = Checks.telling(THREE);
        x.set(0, 100);
        checks.due("not yet", x.told(2), 0);
        checks.due("bring()", x.bring(), 100);
        checks.dueTold("the root alone is done anew", x, 6, 0, 1, 0, 3);
        checks.due("its part was done once", x.call(1, 4), 1);
        checks.due("the part of this was done once", x.call(2, 4), 1);
        x.set(7, 5);
        checks.due("bring() when a cell was set that none read", x.bring(), 100);
        checks.dueTold("nothing is done", x, 6, 0, 0, 0, 3);
    }

    @Sentence(in = "What it is", says = "only what read something that is otherwise now, or called what tells otherwise now, is done anew,")
    static void onlyWhatReadOrCalledOtherwiseIsDoneAnew() {
        TakenUpCalls x = Checks.telling(TWO_PARTS);
        x.set(2, 4);
        checks.due("bring()", x.bring(), 20);
        checks.dueTold("both parts read it, and the root called one that tells otherwise", x, 6, 0, 3, 0, 3);
        x = Checks.telling("d+f1x0f2x1; d*nx2; d*0x3;");
        x.set(3, 9);
        checks.due("bring()", x.bring(), 0);
        checks.dueTold("the second part read it, and tells what it told", x, 6, 0, 1, 0, 3);
        checks.due("so it was done twice", x.call(2, 4), 2);
        checks.due("and the root once", x.call(0, 4), 1);
    }

    @Sentence(in = "What it is", says = "and what it called before is taken up again, if it is called again;")
    static void whatWasCalledBeforeIsTakenUp() {
        TakenUpCalls x = Checks.telling(TWO_PARTS);
        x.set(0, 5);
        x.bring();
        checks.due("the part of 5 is taken up, for the first call now", x.call(1, 3), 2);
        checks.due("and isn't done anew", x.call(1, 4), 1);
        checks.due("the part of 0 isn't called again", x.find(1), Checks.NONE);
        checks.due("nothing is left behind the part of 5", x.call(2, 3), 3);
    }

    @Sentence(in = "What it is", says = "what was made, done anew, gone;")
    static void whatWasMadeDoneAnewGone() {
        TakenUpCalls x = Checks.telling(THREE);
        x.set(1, 3);
        x.bring();
        checks.dueTold("two made, the root done anew, two gone, five ever", x, 6, 2, 1, 2, 5);
    }

    @Sentence(in = "What it is", says = "names of calls that stay with them as long as they stay;")
    static void namesStay() {
        TakenUpCalls x = Checks.telling("d+?x0f1 1 0f1 2; dx+n2;");
        checks.due("the part of 2 is call 1", x.find(1), 1);
        x.set(0, 1);
        x.bring();
        checks.due("the part of 2 is call 2", x.find(1), 2);
        checks.due("the part of 1 is call 1", x.find(2), 1);
        x.set(4, 7);
        x.bring();
        checks.due("done anew, it keeps its name", x.call(2, 3), 1);
        x.set(0, 0);
        x.bring();
        checks.due("the part of 2 is call 1 again", x.find(1), 1);
        checks.due("the name of what is gone", x.find(2), Checks.NONE);
        x.set(0, 1);
        x.bring();
        checks.due("the part of 1 is another now", x.call(1, 3), 3);
        checks.due("the name of what is gone stays unused", x.find(2), Checks.NONE);
    }

    @Sentence(in = "What it is", says = "what a call read, what it holds, who made it, how often it was done;")
    static void whatACallReadHoldsWhoMadeItHowOften() {
        TakenUpCalls x = Checks.telling(THREE);
        x.set(2, 1);
        x.bring();
        int[] read = {3, 0, 4};
        int[] doings = {1, 1, 2};
        for (int k = 0; k < 3; k++) {
            checks.due("what call " + k + " read", x.call(k, 7), read[k]);
            checks.due("what call " + k + " holds", x.call(k, 9), 3 - k);
            checks.due("who made call " + k, x.call(k, 5), k - 1);
            checks.due("how often call " + k + " was done", x.call(k, 4), doings[k]);
        }
    }

    @Sentence(in = "What it is", says = "what would come of it if all were made anew;")
    static void whatWouldComeOfIt() {
        TakenUpCalls x = Checks.telling(THREE);
        x.set(0, 100);
        checks.due("told(4)", x.told(4), 100);
        checks.due("what is kept stays", x.told(2), 0);
        x.aim(1, 9);
        checks.due("told(4) of another aim", x.told(4), 9);
        checks.due("bring()", x.bring(), 9);
    }

    @Sentence(in = "What it is", says = "whether what is kept is just that;")
    static void whetherWhatIsKeptIsJustThat() {
        TakenUpCalls x = Checks.telling(THREE);
        checks.due("told", x.told(5), 1);
        x.set(1, 3);
        checks.due("a cell set", x.told(5), 0);
        x.bring();
        checks.due("brought", x.told(5), 1);
        x.aim(0, 1);
        checks.due("aimed", x.told(5), 0);
        x.bring();
        checks.due("brought to the aim", x.told(5), 1);
    }

    @Sentence(in = "What it is", says = "which cells bear on it;")
    static void whichCellsBearOnIt() {
        TakenUpCalls x = Checks.telling(THREE);
        checks.due("cells 0, 1, 2, 3", x.told(12), 15);
        x.set(2, 1);
        x.bring();
        checks.due("cells 0, 1, 2, as function 2 chooses otherwise", x.told(12), 7);
    }

    @Sentence(in = "What it is", says = "books of what functions tell judged;")
    static void booksJudged() {
        TakenUpCalls x = Checks.telling(THREE);
        x.write(1, 9, 9);
        x.write(2, 9, 5);
        checks.due("the second is wrong", x.told(16), 1);
        x.set(3, 5);
        checks.due("the first is wrong", x.told(16), 0);
        x.tear();
        checks.due("none is wrong", x.told(16), Checks.NONE);
    }

    @Sentence(in = "What it is", says = "cells by draws;")
    static void cellsByDraws() {
        TakenUpCalls x = Checks.telling(THREE);
        checks.due("the seed", x.drift(2), 1449466924);
        int[] due = {8, 0, 0, 0, 7, 0, 0, 0};
        for (int i = 0; i < 8; i++) {
            checks.due("cell " + i, x.cell(i), due[i]);
        }
    }

    @Sentence(in = "What it is", says = "undone;")
    static void undone() {
        TakenUpCalls x = Checks.telling(THREE);
        x.set(0, 100);
        x.aim(1, 9);
        x.drift(1);
        checks.due("undo(2)", x.undo(2), 1);
        checks.due("cell(0)", x.cell(0), 100);
        checks.due("the function of the aim", x.told(13), 0);
        checks.due("undo(1)", x.undo(1), 0);
        checks.due("cell(0)", x.cell(0), 0);
    }

    @Sentence(in = "What it is", says = "images to go on from.")
    static void imagesToGoOnFrom() {
        TakenUpCalls x = Checks.telling(THREE);
        x.set(0, 100);
        x.keep(0);
        int seed = x.drift(12);
        checks.due("goBack(0)", x.goBack(0), 1);
        checks.due("cell(0)", x.cell(0), 100);
        checks.due("the same draws go on from it", x.drift(12), seed);
    }

    @Sentence(in = "Terms", says = "All numbers are whole.")
    static void numbersAreWhole() {
        TakenUpCalls x = Checks.telling("d-3 7; d*5n;");
        checks.due("3 less 7", x.told(2), 993);
        x.aim(1, 200);
        checks.due("5 times 200", x.bring(), 3);
    }
}
