/** The four examples of "Terms", call by call, and those of README.md. */
public final class ExamplesTest {
    private ExamplesTest() {
    }

    private static void stripStepsAndLayers() {
        FoldedTheatre x = new FoldedTheatre();
        Due.due("add(0, 323, 12)", x.add(0, 323, 12), 0);
        Due.due("why(0)", x.why(0), 0);
        Due.due("step(0)", x.step(0), 11);
        Due.due("orders(0)", x.orders(0), 1);
        Due.due("layer(0, 1)", x.layer(0, 1), 1);
        Due.due("place(0, 2)", x.place(0, 2), 1);
        Due.due("mark(0, 1, 1)", x.mark(0, 1, 1), 2);
        Due.due("why(0)", x.why(0), 5);
        Due.due("foldsAgain(0)", x.foldsAgain(0), 0);
        Due.due("fewest(0)", x.fewest(0), 1);
        Due.due("fold(0)", x.fold(0), -1003);
        Due.due("refusal(0)", x.refusal(0), 5);
    }

    private static void cornerOnTheStage() {
        FoldedTheatre x = new FoldedTheatre();
        Due.due("add(1, 6666, 1112)", x.add(1, 6666, 1112), 0);
        Due.due("why(0)", x.why(0), 0);
        Due.due("reflected(0)", x.reflected(0), 0);
        Due.due("fold(0)", x.fold(0), 6);
        Due.due("stage(5)", x.stage(5), -1003);
        Due.due("refusal(1)", x.refusal(1), 1);
        Due.due("turn(0)", x.turn(0), -1003);
        Due.due("refusal(0)", x.refusal(0), 2);
        Due.due("unfold(0)", x.unfold(0), 30);
        Due.due("mark(0, 0, 2)", x.mark(0, 0, 2), 1);
        Due.due("why(0)", x.why(0), 2);
        Due.due("ways(0)", x.ways(0), 0);
    }

    private static void joinedAndCut() {
        FoldedTheatre x = new FoldedTheatre();
        Due.due("add(0, 12, 1)", x.add(0, 12, 1), 0);
        Due.due("add(0, 31, 2)", x.add(0, 31, 2), 1);
        Due.due("join(0, 1, 0)", x.join(0, 1, 0), 4);
        Due.due("piece(0, 5)", x.piece(0, 5), 1);
        Due.due("steps(0)", x.steps(0), -1004);
        Due.due("ways(0)", x.ways(0), 2);
        Due.due("mark(0, 1, 2)", x.mark(0, 1, 2), 0);
        Due.due("orders(0)", x.orders(0), 3);
        Due.due("cut(0, 1)", x.cut(0, 1), 1);
        Due.due("cut(1, 0)", x.cut(1, 0), -1003);
        Due.due("refusal(1)", x.refusal(1), 1);
        Due.due("thickest(0)", x.thickest(0), 2);
    }

    private static void texts() {
        FoldedTheatre x = new FoldedTheatre();
        Due.due("read()", Due.read(x, "s22:o;m0.0=v;f0"), 3);
        Due.due("account(5)", x.account(5), 28);
        Due.due("read()", Due.read(x, "c6666:mmvv;f1"), -1003);
        Due.due("refusal(1)", x.refusal(1), 2);
        Due.due("refusal(2)", x.refusal(2), 1);
        Due.due("read()", Due.read(x, "s20"), -2002);
        Due.due("account(0)", x.account(0), 1);
    }

    private static void readme() {
        FoldedTheatre x = new FoldedTheatre();
        Due.due("add(0, 323, 12)", x.add(0, 323, 12), 0);
        Due.due("why(0)", x.why(0), 0);
        Due.due("step(0)", x.step(0), 11);
        Due.due("fold(0)", x.fold(0), 4);
        Due.due("account(5)", x.account(5), 26);
        Due.due("read()", Due.read(x, "s22:o;m1.0=v;f1"), 3);
        Due.due("account(5)", x.account(5), 24);
    }

    public static void main(String[] args) {
        Due.test("Examples: a strip, its steps and layers", ExamplesTest::stripStepsAndLayers);
        Due.test("Examples: a corner that stands on the stage", ExamplesTest::cornerOnTheStage);
        Due.test("Examples: strips that are joined and cut", ExamplesTest::joinedAndCut);
        Due.test("Examples: texts, and a corner that does not fold", ExamplesTest::texts);
        Due.test("Examples: those of README.md", ExamplesTest::readme);
        Due.finish();
    }
}
