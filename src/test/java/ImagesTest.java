/** Promises 16 (seed), 17 (keep) and 18 (goBack). */
public final class ImagesTest {
    private static final Checks checks = new Checks();

    public static void main(String[] args) {
        seeds();
        keptAndGoneBackTo();
        refusals();
        notKept();
        functionOfTheAimNotTold();
        imagesStayWhenFunctionsAreTold();
        imagesAreApart();
        whatImagesLeaveAsItIs();
        checks.finish();
    }

    private static void seeds() {
        TakenUpCalls x = new TakenUpCalls();
        checks.due("seed(2147483647)", x.seed(2147483647), 0);
        checks.due("seed(0)", x.seed(0), 2147483647);
        checks.due("seed(-1)", x.seed(-1), Checks.OUTSIDE);
        checks.due("seed(least)", x.seed(Integer.MIN_VALUE), Checks.OUTSIDE);
        checks.due("seed(7)", x.seed(7), 0);
        checks.due("seed(7) again", x.seed(7), 7);
        checks.due("seed is no deed", x.told(17), 0);
    }

    private static void keptAndGoneBackTo() {
        TakenUpCalls x = Checks.telling("d+x0n;d+x1n;");
        x.set(0, 4);
        x.set(1, 5);
        x.aim(1, 6);
        x.seed(99);
        checks.due("keep(0)", x.keep(0), 1);
        checks.due("nothing to undo", x.told(17), 0);
        x.set(0, 1);
        x.aim(0, 2);
        x.drift(12);
        checks.due("goBack(0)", x.goBack(0), 1);
        checks.due("nothing to undo then", x.told(17), 0);
        checks.due("undo(1)", x.undo(1), Checks.NOT);
        checks.due("cell(0)", x.cell(0), 4);
        checks.due("cell(1)", x.cell(1), 5);
        for (int i = 2; i < 8; i++) {
            checks.due("cell(" + i + ")", x.cell(i), 0);
        }
        checks.dueTold("aim", x, 13, 1, 6);
        checks.due("seed", x.seed(99), 99);
        checks.due("bring()", x.bring(), 11);
        x.set(1, 7);
        checks.due("goBack(0) again", x.goBack(0), 1);
        checks.due("an image isn't used up", x.cell(1), 5);
        x.set(1, 8);
        checks.due("keep(0) anew", x.keep(0), 1);
        x.set(1, 9);
        x.goBack(0);
        checks.due("the later image", x.cell(1), 8);
    }

    private static void refusals() {
        TakenUpCalls x = new TakenUpCalls();
        x.set(0, 1);
        checks.due("keep(2)", x.keep(2), Checks.UNKNOWN);
        checks.due("keep(-1)", x.keep(-1), Checks.UNKNOWN);
        checks.due("keep(greatest)", x.keep(Integer.MAX_VALUE), Checks.UNKNOWN);
        checks.due("goBack(2)", x.goBack(2), Checks.UNKNOWN);
        checks.due("goBack(-1)", x.goBack(-1), Checks.UNKNOWN);
        checks.due("goBack(least)", x.goBack(Integer.MIN_VALUE), Checks.UNKNOWN);
        checks.due("refused: to undo", x.told(17), 1);
    }

    private static void notKept() {
        TakenUpCalls x = new TakenUpCalls();
        x.set(0, 1);
        x.keep(1);
        x.set(0, 2);
        checks.due("goBack(0)", x.goBack(0), Checks.NOT);
        checks.due("cell(0)", x.cell(0), 2);
        checks.due("to undo", x.told(17), 1);
        checks.due("goBack(1)", x.goBack(1), 1);
        checks.due("cell(0) then", x.cell(0), 1);
    }

    private static void functionOfTheAimNotTold() {
        TakenUpCalls x = Checks.telling("d1;d2;d3;");
        x.aim(2, 8);
        x.set(0, 1);
        x.keep(0);
        Checks.tell(x, "d1;d2;");
        x.set(0, 5);
        checks.due("goBack(0)", x.goBack(0), Checks.NOT);
        checks.due("cell(0)", x.cell(0), 5);
        checks.dueTold("aim", x, 13, 0, 0);
        checks.due("to undo", x.told(17), 1);
        Checks.tell(x, "d1;d2;d9;");
        checks.due("goBack(0) when it is told again", x.goBack(0), 1);
        checks.dueTold("aim then", x, 13, 2, 8);
        checks.due("bring()", x.bring(), 9);
    }

    private static void imagesStayWhenFunctionsAreTold() {
        TakenUpCalls x = new TakenUpCalls();
        x.set(3, 30);
        x.aim(0, 3);
        x.seed(12);
        x.keep(1);
        Checks.tell(x, "dx3;");
        x.set(3, 1);
        x.seed(1);
        checks.due("goBack(1)", x.goBack(1), 1);
        checks.due("cell(3)", x.cell(3), 30);
        checks.dueTold("aim", x, 13, 0, 3);
        checks.due("seed", x.seed(0), 12);
        x.functions();
        checks.due("goBack(1) behind a fault", x.goBack(1), 1);
    }

    private static void imagesAreApart() {
        TakenUpCalls x = new TakenUpCalls();
        x.set(0, 1);
        x.keep(0);
        x.set(0, 2);
        x.keep(1);
        x.set(0, 3);
        x.goBack(0);
        checks.due("image 0", x.cell(0), 1);
        x.set(0, 4);
        x.goBack(1);
        checks.due("image 1", x.cell(0), 2);
        x.goBack(0);
        checks.due("image 0 again", x.cell(0), 1);
    }

    private static void whatImagesLeaveAsItIs() {
        TakenUpCalls x = Checks.telling("d+f1x0x1;d+n1;");
        x.keep(0);
        x.set(0, 4);
        x.bring();
        x.write(0, 0, 1);
        x.feed('d');
        x.goBack(0);
        checks.due("the trace stays", x.told(2), 5);
        checks.due("made ever stays", x.told(9), 3);
        checks.dueTold("counts stay", x, 6, 1, 1, 1);
        checks.due("the book stays", x.told(15), 1);
        checks.due("the text stays", x.told(1), 1);
        checks.due("the root is old", x.told(11), 1);
        checks.due("bring()", x.bring(), 1);
    }
}
