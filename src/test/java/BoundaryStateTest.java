/** "Terms", Reasons, Changes and Errors, and the promises 31 to 33: each boundary, at it and just beyond it. */
public final class BoundaryStateTest extends Theatres {
    /** A call on a theatre. */
    private interface Call {
        int of(FoldedTheatre x);
    }

    private BoundaryStateTest() {
    }

    /** A strip that folds, a corner that folds, a strip that does not, one that is undecided, and a folded one. */
    private static FoldedTheatre theatre() {
        FoldedTheatre x = strip(323, 12);
        x.add(1, 6666, 1112);
        x.add(0, 323, 11);
        x.add(0, 1234567, 120);
        x.add(0, 21, 2);
        x.fold(4);
        return x;
    }

    /** The states are the same, and so are the states that undo and restore lead to. */
    private static void untouched(String call, FoldedTheatre x, FoldedTheatre y) {
        Due.same(call, Due.state(x), Due.state(y));
        Due.due(call + ", the text", x.account(11), y.account(11));
        for (int i = 0; i <= 8; i++) {
            Due.due(call + ", the changes", x.account(12), y.account(12));
            Due.due(call + ", undo", x.undo(), y.undo());
            Due.same(call + ", undo", Due.state(x), Due.state(y));
        }
        Due.due(call + ", restore", x.restore(), y.restore());
        Due.same(call + ", restore", Due.state(x), Due.state(y));
    }

    // ---- Reasons

    private static void reasonOne() {
        FoldedTheatre x = strips(7);
        Due.due("with 7 pieces", x.add(0, 1111, 0), 7);
        refused(x, "with 8 pieces", x.add(0, 1111, 0), 1, 8);
        refused(x, "with 8 pieces", x.cut(7, 1), 1, 8);
        x.drop(0);
        Due.due("with 7 pieces", x.cut(6, 1), 7);
    }

    private static void reasonTwo() {
        FoldedTheatre x = theatre();
        refused(x, "mark", x.mark(4, 0, 1), 2, 4);
        refused(x, "turn", x.turn(4), 2, 4);
        refused(x, "rotate", x.rotate(4, 0), 2, 4);
        refused(x, "join", x.join(4, 0, 1), 2, 4);
        refused(x, "join", x.join(0, 4, 1), 2, 4);
        refused(x, "cut", x.cut(4, 0), 2, 4);
        refused(x, "fold", x.fold(4), 2, 4);
        refused(x, "unfold", x.unfold(0), 2, 0);
        refused(x, "unfold", x.unfold(1), 2, 1);
        x.drop(0);
        refused(x, "fold of it with its number then", x.fold(3), 2, 3);
    }

    private static void reasonThree() {
        FoldedTheatre x = theatre();
        refused(x, "rotate of a strip", x.rotate(2, 0), 3, 2);
        refused(x, "join of a corner", x.join(1, 0, 1), 3, 1);
        refused(x, "join with a corner", x.join(0, 1, 1), 3, 1);
        refused(x, "cut of a corner", x.cut(1, 0), 3, 1);
    }

    private static void reasonFour() {
        FoldedTheatre x = strip(1234567, 111111);
        for (int crease = 5; crease >= 0; crease--) {
            x.mark(0, crease, 0);
            refused(x, "fold with the undecided crease " + crease, x.fold(0), 4, crease);
        }
        for (int crease = 0; crease < 5; crease++) {
            x.mark(0, crease, 2);
            refused(x, "fold without the undecided crease " + crease, x.fold(0), 4, crease + 1);
        }
        x.mark(0, 5, 2);
        Due.due("fold with none", x.fold(0), x.piece(0, 8));
        FoldedTheatre y = corner(33333333, 11111220);
        refused(y, "fold with the last one of a corner", y.fold(0), 4, 7);
        y.mark(0, 7, 2);
        Due.due("fold with none", y.fold(0), 3);
    }

    private static void reasonSix() {
        FoldedTheatre x = strip(1234, 0);
        x.add(0, 123, 0);
        x.add(0, 1234, 0);
        refused(x, "8 panels", x.join(0, 2, 0), 6, 8);
        Due.due("7 panels", x.join(0, 1, 0), 7);
        refused(x, "1 panel", x.cut(1, 0), 6, 1);
        refused(x, "1 panel", x.cut(1, 2), 6, 1);
        Due.due("2 panels", x.cut(1, 1), 2);
    }

    private static void reasonSeven() {
        FoldedTheatre x = strip(99, 1);
        x.fold(0);
        refused(x, "stage(8)", x.stage(8), 7, 1);
        refused(x, "stage(1)", x.stage(1), 7, 8);
        Due.due("stage(9)", x.stage(9), 30);
        x.add(0, 99, 1);
        refused(x, "fold with 0 free", x.fold(1), 7, 9);
        x.stage(17);
        refused(x, "fold with 8 free", x.fold(1), 7, 1);
        x.stage(18);
        Due.due("fold with 9 free", x.fold(1), 9);
        refused(x, "stage(1)", x.stage(1), 7, 17);
    }

    private static void reasonsAreKept() {
        FoldedTheatre x = theatre();
        refused(x, "fold(3)", x.fold(3), 4, 0);
        x.fold(0);
        x.mark(0, 9, 1);
        x.stage(0);
        x.add(0, 1, 1);
        x.place(1, 0);
        x.step(3);
        Due.due("read", Due.read(x, "t1"), 1);
        Due.due("read", Due.read(x, "t9"), BAD);
        Due.due("read", Due.read(x, "q"), -2000);
        x.undo();
        x.save();
        x.restore();
        x.undo();
        Due.due("the reason", x.refusal(0), 4);
        Due.due("the detail", x.refusal(1), 0);
        Due.due("the command", x.refusal(2), NOTHING);
        refused(x, "a later one in its place", x.unfold(1), 2, 1);
    }

    // ---- Changes

    private static void each(String name, Call call, boolean change) {
        FoldedTheatre x = theatre();
        Due.due("the changes", x.account(12), 6);
        Due.write(x, "t0");
        String old = Due.state(x);
        Due.due(name + " answers without an error", call.of(x) > NONE);
        Due.due("the changes after " + name, x.account(12), change ? 7 : 6);
        if (change) {
            Due.due("undo of " + name, x.undo(), 6);
            Due.same("undo of " + name, Due.state(x), old);
        }
    }

    private static void successfulCallsAreChanges() {
        each("stage", x -> x.stage(99), true);
        each("add", x -> x.add(0, 12, 1), true);
        each("mark", x -> x.mark(0, 0, 2), true);
        each("turn", x -> x.turn(0), true);
        each("rotate", x -> x.rotate(1, 1), true);
        each("join", x -> x.join(0, 2, 1), true);
        each("cut", x -> x.cut(3, 1), true);
        each("fold", x -> x.fold(0), true);
        each("unfold", x -> x.unfold(4), true);
        each("drop", x -> x.drop(0), true);
        each("drop of a folded piece", x -> x.drop(4), true);
        each("read", x -> x.read(), true);
    }

    private static void alsoThoseThatChangeNothing() {
        each("stage with its width", x -> x.stage(30), true);
        each("mark as it is", x -> x.mark(0, 0, 1), true);
        each("rotate to the crease 0", x -> x.rotate(1, 0), true);
        FoldedTheatre x = strip(12, 0);
        Due.due("turn of undecided creases", x.turn(0), 0);
        Due.due("the changes", x.account(12), 2);
        Due.due("turned and turned back by a text", Due.read(x, "m0.0=o;t0;t0"), 3);
        Due.due("the changes", x.account(12), 3);
    }

    private static void otherCallsAreNoChanges() {
        each("append", x -> x.append('t'), false);
        each("save", x -> x.save(), false);
        each("refusal", x -> x.refusal(0) == NOTHING ? 0 : BAD, false);
        each("account", x -> x.account(12), false);
        each("share", x -> x.share(), false);
        each("piece", x -> x.piece(0, 8), false);
        each("size", x -> x.size(0, 0), false);
        each("crease", x -> x.crease(0, 0), false);
        each("why", x -> x.why(0), false);
        each("foldsAgain", x -> x.foldsAgain(0), false);
        each("step", x -> x.step(0), false);
        each("steps", x -> x.steps(0), false);
        each("ways", x -> x.ways(3), false);
        each("fewest", x -> x.fewest(3), false);
        each("place", x -> x.place(0, 0), false);
        each("layer", x -> x.layer(0, 0), false);
        each("orders", x -> x.orders(0), false);
        each("thickest", x -> x.thickest(0), false);
        each("reflected", x -> x.reflected(1), false);
    }

    private static void atMostEightCanBeUndone() {
        for (int changes = 0; changes <= 20; changes++) {
            FoldedTheatre x = new FoldedTheatre();
            for (int i = 0; i < changes; i++) {
                x.stage(i + 1);
            }
            int left = Math.min(changes, 8);
            Due.due("after " + changes + " changes", x.account(12), left);
            for (int undone = 1; undone <= left; undone++) {
                Due.due("undo after " + changes + " changes", x.undo(), left - undone);
                Due.due("the latest first", x.account(4), changes == undone ? 30 : changes - undone);
            }
            Due.due("undo of no more after " + changes, x.undo(), NOTHING);
            Due.due("the width", x.account(4), changes <= 8 ? 30 : changes - 8);
        }
    }

    // ---- Errors

    private static void errorLeaves(String name, Call call) {
        FoldedTheatre x = theatre();
        FoldedTheatre y = theatre();
        for (FoldedTheatre each : new FoldedTheatre[] {x, y}) {
            each.stage(5);
            each.save();
            each.mark(3, 0, 2);
            Due.write(each, "t0");
        }
        Due.due(name + " is an error", call.of(x) <= NONE);
        untouched(name, x, y);
    }

    private static void errorsLeaveTheState() {
        errorLeaves("stage(0)", x -> x.stage(0));
        errorLeaves("stage(1)", x -> x.stage(1));
        errorLeaves("add out of range", x -> x.add(0, 12, 3));
        errorLeaves("mark, NONE", x -> x.mark(0, 2, 1));
        errorLeaves("mark, BAD", x -> x.mark(0, 0, 3));
        errorLeaves("mark, REFUSED", x -> x.mark(4, 0, 1));
        errorLeaves("turn, NONE", x -> x.turn(5));
        errorLeaves("turn, REFUSED", x -> x.turn(4));
        errorLeaves("rotate, NONE", x -> x.rotate(1, 4));
        errorLeaves("rotate, REFUSED", x -> x.rotate(0, 1));
        errorLeaves("join, NONE", x -> x.join(0, 0, 1));
        errorLeaves("join, BAD", x -> x.join(0, 2, 3));
        errorLeaves("join, REFUSED", x -> x.join(0, 3, 1));
        errorLeaves("cut, NONE", x -> x.cut(0, 2));
        errorLeaves("cut, REFUSED", x -> x.cut(0, 1));
        errorLeaves("fold, NONE", x -> x.fold(5));
        errorLeaves("fold, REFUSED for 4", x -> x.fold(3));
        errorLeaves("fold, REFUSED for 5", x -> x.fold(2));
        errorLeaves("fold, REFUSED for 7", x -> x.fold(0));
        errorLeaves("unfold, NONE", x -> x.unfold(5));
        errorLeaves("unfold, REFUSED", x -> x.unfold(0));
        errorLeaves("drop, NONE", x -> x.drop(5));
        errorLeaves("append, BAD", x -> x.append(31));
    }

    private static void addToEightLeavesTheState() {
        FoldedTheatre x = full();
        FoldedTheatre y = full();
        refused(x, "add", x.add(1, 6666, 0), 1, 8);
        untouched("add to 8 pieces", x, y);
    }

    /** The text is empty after each read; nothing else is changed by one that answers with an error. */
    private static void readLeavesTheStateButTheText() {
        for (String text : new String[] {"q", "x0;x", "x0;t9", "x0;s12:mm", "x0;s123:o", "x0;u1", "f0;x1;u1", ""}) {
            FoldedTheatre x = theatre();
            FoldedTheatre y = theatre();
            x.save();
            y.save();
            Due.due("read of " + text + " is an error", Due.read(x, text) <= NONE);
            untouched("read of " + text, x, y);
        }
    }

    /** 512 calls, of which the last one answers as the first one does. */
    private static void manyCalls() {
        FoldedTheatre x = new FoldedTheatre();
        int calls = 0;
        int width = 30;
        for (; calls < 128; calls++) {
            Due.due("stage", x.stage(1 + calls % 99), width);
            width = 1 + calls % 99;
        }
        for (; calls < 500; calls += 6) {
            Due.due("add", x.add(0, 323, 12), 0);
            Due.due("fold", x.fold(0), 4);
            Due.due("unfold", x.unfold(0), width);
            Due.due("fold", x.fold(0), 4);
            Due.due("ways", x.ways(0), 1);
            Due.due("drop", x.drop(0), 0);
        }
        Due.due("the changes", x.account(12), 8);
        Due.due("how often something was folded", x.account(10), 124);
        Due.due("save", x.save(), 0);
        for (calls += 3; calls < 511; calls++) {
            Due.due("add", x.add(0, 12, 1), calls - 503);
        }
        Due.due("the call " + (calls + 1), x.restore(), 0);
    }

    // ---- 31 to 33

    private static void undoReturns() {
        FoldedTheatre x = new FoldedTheatre();
        Due.due("undo of a new object", x.undo(), NOTHING);
        x.add(0, 12, 1);
        Due.due("undo of one", x.undo(), 0);
        Due.due("undo of none", x.undo(), NOTHING);
        Due.due("the pieces", x.account(0), 0);
        x.add(0, 12, 1);
        x.add(0, 12, 1);
        Due.due("undo of two", x.undo(), 1);
        x.add(0, 34, 1);
        Due.due("a change after undo", x.account(12), 2);
        Due.due("undo", x.undo(), 1);
        Due.due("undo", x.undo(), 0);
        Due.due("undo", x.undo(), NOTHING);
    }

    private static void undoBeyondTheRing() {
        FoldedTheatre x = new FoldedTheatre();
        for (int i = 1; i <= 12; i++) {
            x.stage(i);
        }
        for (int i = 0; i < 5; i++) {
            x.undo();
        }
        Due.due("the width", x.account(4), 7);
        for (int i = 50; i < 56; i++) {
            x.stage(i);
        }
        Due.due("3 and 6 are at most 8", x.account(12), 8);
        int[] widths = {54, 53, 52, 51, 50, 7, 6, 5};
        for (int width : widths) {
            x.undo();
            Due.due("the width", x.account(4), width);
        }
        Due.due("undo", x.undo(), NOTHING);
    }

    private static void textAndReasonsStay() {
        FoldedTheatre x = theatre();
        Due.write(x, "t0;");
        x.save();
        Due.write(x, "t0");
        x.unfold(0);
        x.undo();
        Due.due("the text after undo", x.account(11), 5);
        Due.due("the reason after undo", x.refusal(0), 2);
        x.restore();
        Due.due("the text after restore", x.account(11), 5);
        Due.due("the reason after restore", x.refusal(0), 2);
        Due.due("the detail after restore", x.refusal(1), 0);
        Due.due("the text is as it was", x.read(), 2);
        x.undo();
        Due.due("undo of read does not bring the text back", x.account(11), 0);
    }

    private static void saveReturns() {
        FoldedTheatre x = new FoldedTheatre();
        Due.due("save without pieces", x.save(), 0);
        for (int i = 1; i <= 8; i++) {
            x.add(0, 12, 1);
            Due.due("save with " + i, x.save(), i);
        }
        x.drop(7);
        Due.due("restore of the latest one", x.restore(), 8);
        x.drop(7);
        Due.due("save in place of it", x.save(), 7);
        x.add(0, 12, 1);
        Due.due("restore of the one in its place", x.restore(), 7);
    }

    private static void restoreReturns() {
        FoldedTheatre x = strip(12, 1);
        Due.due("restore without a snapshot", x.restore(), NOTHING);
        Due.due("the pieces still", x.account(0), 1);
        Due.due("the changes still", x.account(12), 1);
        x.drop(0);
        x.save();
        x.add(0, 12, 1);
        Due.due("restore of no pieces", x.restore(), 0);
        Due.due("the pieces", x.account(0), 0);
        Due.due("nothing can be undone", x.undo(), NOTHING);
        Due.due("the changes", x.account(12), 0);
        x.add(0, 12, 1);
        x.add(0, 12, 1);
        Due.due("the snapshot stays", x.restore(), 0);
        Due.due("the pieces", x.account(0), 0);
        Due.due("restore again", x.restore(), 0);
        x.stage(40);
        Due.due("a change after restore", x.account(12), 1);
        Due.due("undo of it", x.undo(), 0);
        Due.due("undo of no more", x.undo(), NOTHING);
    }

    private static void snapshotHoldsWhatChangesCanChange() {
        FoldedTheatre x = theatre();
        String old = Due.state(x);
        x.save();
        x.stage(99);
        x.mark(0, 0, 0);
        x.turn(2);
        x.rotate(1, 2);
        x.unfold(4);
        x.fold(4);
        x.fold(1);
        x.join(3, 2, 1);
        x.cut(0, 0);
        x.drop(0);
        x.add(0, 99, 0);
        Due.due("restore", x.restore(), 5);
        Due.same("restore", Due.state(x), old);
        Due.due("how often something was folded", x.account(10), 1);
    }

    private static void undoOfWhatUndoNeverReaches() {
        FoldedTheatre x = strip(12, 1);
        x.save();
        x.restore();
        Due.due("undo beyond restore", x.undo(), NOTHING);
        Due.due("the pieces", x.account(0), 1);
        x.undo();
        x.save();
        Due.due("save does not forget what can be undone", x.stage(40), 30);
        x.save();
        Due.due("undo", x.undo(), 0);
        Due.due("the width", x.account(4), 30);
        Due.due("restore brings it back", x.restore(), 1);
        Due.due("the width", x.account(4), 40);
    }

    public static void main(String[] args) {
        Due.test("Reasons: 1, there are 8 pieces", BoundaryStateTest::reasonOne);
        Due.test("Reasons: 2, the piece is folded, or is not", BoundaryStateTest::reasonTwo);
        Due.test("Reasons: 3, a corner, or a strip", BoundaryStateTest::reasonThree);
        Due.test("Reasons: 4, the lowest undecided crease", BoundaryStateTest::reasonFour);
        Due.test("Reasons: 6, how many panels", BoundaryStateTest::reasonSix);
        Due.test("Reasons: 7, how much is lacking", BoundaryStateTest::reasonSeven);
        Due.test("Reasons: they are kept", BoundaryStateTest::reasonsAreKept);
        Due.test("Changes: the successful calls", BoundaryStateTest::successfulCallsAreChanges);
        Due.test("Changes: also those by which nothing changes", BoundaryStateTest::alsoThoseThatChangeNothing);
        Due.test("Changes: no other calls", BoundaryStateTest::otherCallsAreNoChanges);
        Due.test("Changes: at most 8 of them can be undone", BoundaryStateTest::atMostEightCanBeUndone);
        Due.test("Errors: the state is left", BoundaryStateTest::errorsLeaveTheState);
        Due.test("Errors: the state is left by add to 8 pieces", BoundaryStateTest::addToEightLeavesTheState);
        Due.test("Errors: read leaves the state, but the text", BoundaryStateTest::readLeavesTheStateButTheText);
        Due.test("What it is: 512 calls", BoundaryStateTest::manyCalls);
        Due.test("31: undo", BoundaryStateTest::undoReturns);
        Due.test("31: undo, and changes after it", BoundaryStateTest::undoBeyondTheRing);
        Due.test("31 and 33: the text and the reasons stay", BoundaryStateTest::textAndReasonsStay);
        Due.test("32: save", BoundaryStateTest::saveReturns);
        Due.test("33: restore", BoundaryStateTest::restoreReturns);
        Due.test("33: the snapshot contains what changes can change",
            BoundaryStateTest::snapshotHoldsWhatChangesCanChange);
        Due.test("31 to 33: undo beside save and restore", BoundaryStateTest::undoOfWhatUndoNeverReaches);
        Due.finish();
    }
}
