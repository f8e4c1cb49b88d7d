/** Promises 1 to 25 and 28 to 30: each sentence on what a call returns, at its boundary and just beyond it. */
public final class BoundaryCallsTest extends Theatres {
    private static final int[] EXTREMES = {-1, -1001, Integer.MAX_VALUE, Integer.MIN_VALUE};

    /** A call that has a piece as its first argument. */
    private interface Call {
        int of(FoldedTheatre x, int piece);
    }

    private BoundaryCallsTest() {
    }

    /** NONE for a piece that is not there: without pieces, with one, and with eight. */
    private static void noSuchPiece(String name, int kind, int sizes, int creases, Call call) {
        FoldedTheatre x = new FoldedTheatre();
        for (int count = 0; count <= 8; count++) {
            String old = Due.state(x);
            Due.due(name + " of piece " + count + " of " + count, call.of(x, count), NONE);
            for (int piece : EXTREMES) {
                Due.due(name + " of piece " + piece, call.of(x, piece), NONE);
            }
            Due.same(name, Due.state(x), old);
            if (count < 8) {
                x.add(kind, sizes, creases);
                x.save();
                Due.due(name + " of piece " + count, call.of(x, count) != NONE);
                x.restore();
            }
        }
    }

    // ---- 1 and 2

    private static void withoutPieces() {
        FoldedTheatre x = new FoldedTheatre();
        Due.due("the pieces", x.account(0), 0);
        Due.due("piece(0, 0)", x.piece(0, 0), NONE);
        Due.due("drop(0)", x.drop(0), NONE);
        Due.due("the number of the first one", x.add(0, 12, 0), 0);
    }

    private static void stageReturns() {
        FoldedTheatre x = strip(323, 12);
        for (int width : new int[] {0, -1, -30, 100, 101, Integer.MAX_VALUE, Integer.MIN_VALUE}) {
            Due.due("stage(" + width + ")", x.stage(width), BAD);
        }
        Due.due("stage(1), as nothing is folded", x.stage(1), 30);
        Due.due("stage(4)", x.stage(4), 1);
        Due.due("fold(0)", x.fold(0), 4);
        Due.due("stage(4), all of it taken", x.stage(4), 4);
        refused(x, "stage(3)", x.stage(3), 7, 1);
        refused(x, "stage(1)", x.stage(1), 7, 3);
        Due.due("stage(0), which would be too narrow as well", x.stage(0), BAD);
        Due.due("the width still", x.account(4), 4);
    }

    // ---- 3

    private static void creasesOf(int kind, int sizes, int creases, boolean right) {
        FoldedTheatre x = new FoldedTheatre();
        Due.due("add(" + kind + ", " + sizes + ", " + creases + ")", x.add(kind, sizes, creases), right ? 0 : BAD);
        Due.due("the pieces", x.account(0), right ? 1 : 0);
    }

    private static void notMoreDigitsThanCreases() {
        creasesOf(0, 12, 2, true);
        creasesOf(0, 12, 10, false);
        creasesOf(0, 12, 11, false);
        creasesOf(0, 123, 22, true);
        creasesOf(0, 123, 100, false);
        creasesOf(0, 1234567, 222222, true);
        creasesOf(0, 1234567, 1000000, false);
        creasesOf(1, 6666, 2222, true);
        creasesOf(1, 6666, 10000, false);
        creasesOf(1, 444444, 222222, true);
        creasesOf(1, 444444, 1000000, false);
        creasesOf(1, 33333333, 22222222, true);
        creasesOf(1, 33333333, 100000000, false);
        creasesOf(1, 33333333, 2000000000, false);
        creasesOf(0, 1234567, Integer.MAX_VALUE, false);
    }

    private static void creaseDigitsFromZeroToTwo() {
        creasesOf(0, 1234, 222, true);
        creasesOf(0, 1234, 223, false);
        creasesOf(0, 1234, 232, false);
        creasesOf(0, 1234, 322, false);
        creasesOf(0, 1234, 0, true);
        creasesOf(0, 1234, -1, false);
        creasesOf(0, 1234, -10, false);
        creasesOf(0, 1234, Integer.MIN_VALUE, false);
        creasesOf(1, 33333333, 30000000, false);
        creasesOf(1, 33333333, 3, false);
    }

    private static void addReturns() {
        FoldedTheatre x = full();
        Due.due("what is wrong ahead of what is refused", x.add(0, 12, 3), BAD);
        Due.due("what is wrong ahead of what is refused", x.add(0, 1, 0), BAD);
        Due.due("what is wrong ahead of what is refused", x.add(2, 12, 0), BAD);
        Due.due("nothing was refused", x.refusal(0), NOTHING);
        refused(x, "add of a ninth", x.add(0, 12, 0), 1, 8);
        Due.due("the piece that was added last is not folded", x.piece(7, 7), 0);
    }

    // ---- 4 to 6

    private static void markReturns() {
        FoldedTheatre x = strip(1234, 12);
        Due.due("what it was: undecided", x.mark(0, 0, 1), 0);
        Due.due("what it was: a mountain", x.mark(0, 0, 2), 1);
        Due.due("what it was: a valley", x.mark(0, 0, 0), 2);
        Due.due("mark(0, 2, 2)", x.mark(0, 2, 2), 2);
        Due.due("mark(0, 3, 2)", x.mark(0, 3, 2), NONE);
        for (int crease : EXTREMES) {
            Due.due("mark(0, " + crease + ", 2)", x.mark(0, crease, 2), NONE);
        }
        for (int kind : new int[] {-1, 3, Integer.MAX_VALUE, Integer.MIN_VALUE}) {
            Due.due("mark(0, 0, " + kind + ")", x.mark(0, 0, kind), BAD);
            Due.due("no such crease ahead of no such kind", x.mark(0, 3, kind), NONE);
            Due.due("no such piece ahead of no such kind", x.mark(1, 0, kind), NONE);
        }
        FoldedTheatre y = corner(33333333, 11111222);
        Due.due("mark(0, 7, 2)", y.mark(0, 7, 2), 2);
        Due.due("mark(0, 8, 2)", y.mark(0, 8, 2), NONE);
        y.fold(0);
        refused(y, "mark of a folded piece", y.mark(0, 7, 2), 2, 0);
        Due.due("no such kind ahead of what is refused", y.mark(0, 7, 3), BAD);
        Due.due("no such crease ahead of what is refused", y.mark(0, 8, 2), NONE);
    }

    private static void turnReturns() {
        FoldedTheatre x = strip(1234, 0);
        Due.due("turn with 0 decided", x.turn(0), 0);
        x.mark(0, 1, 1);
        Due.due("turn with 1 decided", x.turn(0), 1);
        Due.due("a mountain becomes a valley", x.crease(0, 1), 2);
        Due.due("turn again", x.turn(0), 1);
        Due.due("a valley becomes a mountain", x.crease(0, 1), 1);
        Due.due("an undecided one stays", x.crease(0, 0) + x.crease(0, 2), 0);
        Due.due("turn with 8 decided", corner(33333333, 12121212).turn(0), 8);
        FoldedTheatre y = strip(323, 12);
        y.fold(0);
        refused(y, "turn of a folded piece", y.turn(0), 2, 0);
        y.unfold(0);
        Due.due("turn of an unfolded piece", y.turn(0), 2);
        Due.due("sizes stay", y.size(0, 0) * 100 + y.size(0, 1) * 10 + y.size(0, 2), 323);
    }

    private static void rotateReturns() {
        FoldedTheatre x = corner(12345621, 12000000);
        Due.due("rotate(0, 0)", x.rotate(0, 0), 12345621);
        Due.due("rotate(0, 7)", x.rotate(0, 7), 11234562);
        Due.due("around the point", x.crease(0, 1) * 10 + x.crease(0, 2), 12);
        Due.due("rotate(0, 1)", x.rotate(0, 1), 12345621);
        Due.due("it is as it was", x.crease(0, 0) * 10 + x.crease(0, 1), 12);
        Due.due("rotate(0, 8)", x.rotate(0, 8), NONE);
        for (int crease : EXTREMES) {
            Due.due("rotate(0, " + crease + ")", x.rotate(0, crease), NONE);
        }
        FoldedTheatre y = corner(5874, 1112);
        Due.due("rotate(0, 3)", y.rotate(0, 3), 4587);
        Due.due("the crease that was told becomes the crease 0", y.crease(0, 0), 2);
        Due.due("rotate(0, 4)", y.rotate(0, 4), NONE);
        y.add(0, 323, 12);
        refused(y, "rotate of a strip", y.rotate(1, 1), 3, 1);
        Due.due("no such crease of a strip", y.rotate(1, 2), NONE);
        y.fold(1);
        refused(y, "rotate of a folded strip", y.rotate(1, 1), 2, 1);
        y.fold(0);
        refused(y, "rotate of a folded corner", y.rotate(0, 0), 2, 0);
        Due.due("no such crease of a folded corner", y.rotate(0, 4), NONE);
    }

    // ---- 7

    private static void joinOfPieces() {
        FoldedTheatre x = strip(12, 1);
        x.add(0, 34, 2);
        Due.due("join(0, 0, 1)", x.join(0, 0, 1), NONE);
        Due.due("join(1, 1, 1)", x.join(1, 1, 1), NONE);
        Due.due("join(0, 2, 1)", x.join(0, 2, 1), NONE);
        Due.due("join(2, 0, 1)", x.join(2, 0, 1), NONE);
        for (int piece : EXTREMES) {
            Due.due("join(" + piece + ", 0, 1)", x.join(piece, 0, 1), NONE);
            Due.due("join(0, " + piece + ", 1)", x.join(0, piece, 1), NONE);
        }
        for (int kind : new int[] {-1, 3, Integer.MAX_VALUE, Integer.MIN_VALUE}) {
            Due.due("join(0, 1, " + kind + ")", x.join(0, 1, kind), BAD);
            Due.due("both are the same, ahead of no such kind", x.join(0, 0, kind), NONE);
            Due.due("no such piece ahead of no such kind", x.join(0, 2, kind), NONE);
        }
        Due.due("join(0, 1, 0)", x.join(0, 1, 0), 4);
        Due.due("the pieces", x.account(0), 1);
    }

    private static void joinToSevenPanels() {
        FoldedTheatre x = strip(1234, 121);
        x.add(0, 567, 21);
        x.add(0, 8912, 0);
        refused(x, "join to 8 panels", x.join(0, 2, 1), 6, 8);
        refused(x, "join to 7 and more", x.join(2, 0, 1), 6, 8);
        Due.due("join to 7 panels", x.join(0, 1, 2), 7);
        int[] creases = {1, 2, 1, 2, 2, 1};
        for (int i = 0; i < 7; i++) {
            Due.due("size(0, " + i + ")", x.size(0, i), i + 1);
            Due.due("crease(0, " + i + ")", x.crease(0, i), i < 6 ? creases[i] : NONE);
        }
        FoldedTheatre y = strip(1234567, 0);
        y.add(0, 1234567, 0);
        refused(y, "join to 14 panels", y.join(0, 1, 1), 6, 14);
        y.add(0, 11, 0);
        y.add(0, 22, 0);
        Due.due("join to 4 panels", y.join(2, 3, 0), 4);
    }

    private static void joinNumbers() {
        FoldedTheatre x = strip(11, 1);
        x.add(0, 22, 1);
        x.add(0, 33, 1);
        x.add(0, 44, 1);
        Due.due("join of a later one with an earlier one", x.join(2, 1, 1), 4);
        Due.due("numbers decrease by 1", x.size(1, 0) * 10 + x.size(1, 3), 32);
        Due.due("later ones, too", x.size(2, 0), 4);
        Due.due("earlier ones stay", x.size(0, 0), 1);
        Due.due("the pieces", x.account(0), 3);
        Due.due("join with the last one", x.join(0, 2, 1), 4);
        Due.due("the first one", x.size(0, 0) * 10 + x.size(0, 3), 14);
        Due.due("the pieces", x.account(0), 2);
    }

    private static void joinRefusals() {
        FoldedTheatre x = strip(1234, 112);
        x.add(0, 32123, 1212);
        x.add(1, 6666, 1112);
        x.add(1, 6666, 1112);
        refused(x, "too many panels", x.join(0, 1, 1), 6, 9);
        refused(x, "the second one is a corner", x.join(0, 2, 1), 3, 2);
        refused(x, "the first one is a corner", x.join(2, 0, 1), 3, 2);
        refused(x, "both are corners", x.join(3, 2, 1), 3, 3);
        x.fold(3);
        refused(x, "the second one is folded, the first one a corner", x.join(2, 3, 1), 2, 3);
        x.fold(1);
        refused(x, "the second one is folded, ahead of 6", x.join(0, 1, 1), 2, 1);
        refused(x, "the first one is folded, ahead of 6", x.join(1, 0, 1), 2, 1);
        refused(x, "the first one is folded, the second one a corner", x.join(1, 2, 1), 2, 1);
        refused(x, "both are folded", x.join(1, 3, 1), 2, 1);
        refused(x, "both are folded", x.join(3, 1, 1), 2, 3);
        Due.due("no such kind ahead of what is refused", x.join(3, 1, 3), BAD);
    }

    // ---- 8

    private static void partIs(FoldedTheatre x, int piece, String sizes, String creases) {
        Due.due("a strip", x.piece(piece, 0), 0);
        Due.due("the panels of " + sizes, x.piece(piece, 1), sizes.length());
        Due.due("the creases of " + sizes, x.piece(piece, 2), creases.length());
        Due.due("not folded", x.piece(piece, 7), 0);
        for (int i = 0; i < sizes.length(); i++) {
            Due.due("size " + i + " of " + sizes, x.size(piece, i), sizes.charAt(i) - '0');
        }
        for (int i = 0; i < creases.length(); i++) {
            Due.due("crease " + i + " of " + sizes, x.crease(piece, i), creases.charAt(i) - '0');
        }
    }

    private static void cutParts() {
        FoldedTheatre x = strip(1234567, 120211);
        x.add(1, 6666, 1112);
        refused(x, "cut(0, 0)", x.cut(0, 0), 6, 1);
        refused(x, "cut(0, 5)", x.cut(0, 5), 6, 1);
        Due.due("cut(0, 6)", x.cut(0, 6), NONE);
        for (int crease : EXTREMES) {
            Due.due("cut(0, " + crease + ")", x.cut(0, crease), NONE);
        }
        Due.due("cut(0, 1), with 2 panels at the left", x.cut(0, 1), 2);
        partIs(x, 0, "12", "1");
        partIs(x, 2, "34567", "0211");
        Due.due("cut(2, 2), with 2 panels at the right", x.cut(2, 2), 3);
        partIs(x, 2, "345", "02");
        partIs(x, 3, "67", "1");
        refused(x, "cut of 2 panels", x.cut(0, 0), 6, 1);
        refused(x, "cut of 3 panels", x.cut(2, 0), 6, 1);
        refused(x, "cut of 3 panels", x.cut(2, 1), 6, 1);
        Due.due("the pieces", x.account(0), 4);
    }

    private static void cutRefusals() {
        FoldedTheatre x = strips(5);
        x.add(0, 3223, 121);
        x.add(1, 6666, 1112);
        refused(x, "cut of a corner", x.cut(6, 0), 3, 6);
        refused(x, "cut of a corner", x.cut(6, 3), 3, 6);
        Due.due("no such crease of a corner", x.cut(6, 4), NONE);
        x.fold(6);
        refused(x, "cut of a folded corner", x.cut(6, 0), 2, 6);
        x.fold(0);
        refused(x, "cut of a folded strip of 2 panels", x.cut(0, 0), 2, 0);
        Due.due("no such crease of a folded strip", x.cut(0, 1), NONE);
        Due.due("cut to 8 pieces", x.cut(5, 1), 7);
        refused(x, "cut with 8 pieces, of a folded strip", x.cut(0, 0), 1, 8);
        refused(x, "cut with 8 pieces, of a folded corner", x.cut(6, 0), 1, 8);
        refused(x, "cut with 8 pieces, of 2 panels", x.cut(5, 0), 1, 8);
        Due.due("no such crease ahead of what is refused", x.cut(0, 1), NONE);
        x.unfold(6);
        refused(x, "cut with 8 pieces, of a corner", x.cut(6, 0), 1, 8);
    }

    // ---- 9 to 11

    private static void foldReturns() {
        FoldedTheatre x = strip(323, 12);
        x.stage(3);
        refused(x, "fold with 3 of 4", x.fold(0), 7, 1);
        x.stage(1);
        refused(x, "fold with 1 of 4", x.fold(0), 7, 3);
        Due.due("how often something was folded", x.account(10), 0);
        x.stage(4);
        Due.due("fold with 4 of 4", x.fold(0), 4);
        Due.due("how often something was folded", x.account(10), 1);
        refused(x, "fold of a folded piece, without width", x.fold(0), 2, 0);
        x.add(0, 323, 11);
        refused(x, "what does not fold, without width", x.fold(1), 5, 5);
        x.mark(1, 1, 0);
        refused(x, "an undecided crease, without width", x.fold(1), 4, 1);
        x.mark(1, 0, 0);
        refused(x, "the lowest of two", x.fold(1), 4, 0);
        x.add(1, 7566, 1110);
        refused(x, "the last one of a corner", x.fold(2), 4, 3);
        x.mark(2, 3, 1);
        refused(x, "even angles", x.fold(2), 5, 1);
    }

    private static void foldTellsWhatStandsInTheWay() {
        int[][] all = {{0, 323, 11, 5}, {1, 7566, 1112, 1}, {1, 6666, 1122, 2}, {1, 4587, 1112, 3}, {1, 5577, 1112, 5}};
        for (int[] each : all) {
            FoldedTheatre x = with(each[0], each[1], each[2]);
            Due.due("why of " + each[1], x.why(0), each[3]);
            refused(x, "fold of " + each[1], x.fold(0), 5, each[3]);
            Due.due("it is not folded", x.piece(0, 7), 0);
        }
    }

    private static void unfoldReturns() {
        FoldedTheatre x = strip(323, 12);
        x.add(1, 6666, 1112);
        refused(x, "unfold of what is not folded", x.unfold(0), 2, 0);
        x.stage(10);
        x.fold(0);
        x.fold(1);
        Due.due("unfold(0)", x.unfold(0), 4);
        refused(x, "unfold(0) again", x.unfold(0), 2, 0);
        Due.due("unfold(1)", x.unfold(1), 10);
        refused(x, "unfold(1) again", x.unfold(1), 2, 1);
        Due.due("how often something was folded", x.account(10), 2);
    }

    private static void dropReturns() {
        FoldedTheatre x = full();
        x.fold(7);
        for (int left = 7; left >= 0; left--) {
            Due.due("drop(" + (left + 1) + ")", x.drop(left + 1), NONE);
            Due.due("drop(" + left + ")", x.drop(left), left);
        }
        Due.due("drop(0) without pieces", x.drop(0), NONE);
        FoldedTheatre y = strip(323, 12);
        y.fold(0);
        Due.due("drop of a folded piece", y.drop(0), 0);
        Due.due("how often something was folded", y.account(10), 1);
    }

    // ---- 12 to 14

    private static void pieceReturns() {
        FoldedTheatre x = strip(31413, 1201);
        x.add(1, 395511, 111112);
        int[] strip = {0, 5, 4, 2, 1, 1, 12, 0, 8};
        int[] corner = {1, 6, 6, 5, 1, 0, 24, 0, 9};
        for (int what = 0; what <= 8; what++) {
            Due.due("piece(0, " + what + ")", x.piece(0, what), strip[what]);
            Due.due("piece(1, " + what + ")", x.piece(1, what), corner[what]);
        }
        x.add(0, 21, 2);
        Due.due("before it is folded", x.piece(2, 7) * 10 + x.piece(2, 8), 2);
        x.fold(2);
        Due.due("folded", x.piece(2, 7) * 10 + x.piece(2, 8), 12);
        x.unfold(2);
        Due.due("unfolded", x.piece(2, 7) * 10 + x.piece(2, 8), 2);
        x.drop(2);
        for (int what : new int[] {-1, 9, Integer.MAX_VALUE, Integer.MIN_VALUE}) {
            Due.due("piece(0, " + what + ")", x.piece(0, what), BAD);
            Due.due("no such piece ahead of no such what", x.piece(2, what), NONE);
            Due.due("no such piece ahead of no such what", x.piece(-1, what), NONE);
        }
    }

    private static void sizeReturns() {
        FoldedTheatre x = strip(12, 0);
        x.add(0, 1234567, 0);
        x.add(1, 12345621, 0);
        Due.due("size(0, 1)", x.size(0, 1), 2);
        Due.due("size(0, 2)", x.size(0, 2), NONE);
        Due.due("size(1, 6)", x.size(1, 6), 7);
        Due.due("size(1, 7)", x.size(1, 7), NONE);
        Due.due("size(2, 7)", x.size(2, 7), 1);
        Due.due("size(2, 8)", x.size(2, 8), NONE);
        for (int index : EXTREMES) {
            Due.due("size(2, " + index + ")", x.size(2, index), NONE);
        }
        x.cut(1, 3);
        Due.due("size(1, 3) of the left part", x.size(1, 3), 4);
        Due.due("size(1, 4) of the left part", x.size(1, 4), NONE);
    }

    private static void creaseReturns() {
        FoldedTheatre x = strip(12, 2);
        x.add(0, 1234567, 111112);
        x.add(1, 33333333, 20000001);
        Due.due("crease(0, 0)", x.crease(0, 0), 2);
        Due.due("crease(0, 1)", x.crease(0, 1), NONE);
        Due.due("crease(1, 5)", x.crease(1, 5), 2);
        Due.due("crease(1, 6)", x.crease(1, 6), NONE);
        Due.due("crease(2, 0)", x.crease(2, 0), 2);
        Due.due("crease(2, 7)", x.crease(2, 7), 1);
        Due.due("crease(2, 8)", x.crease(2, 8), NONE);
        for (int index : EXTREMES) {
            Due.due("crease(2, " + index + ")", x.crease(2, index), NONE);
        }
        x.cut(1, 3);
        Due.due("crease(1, 2) of the left part", x.crease(1, 2), 1);
        Due.due("crease(1, 3), at which it was cut", x.crease(1, 3), NONE);
    }

    // ---- 16 to 25

    private static void foldsAgainReturns() {
        Due.due("with an order", strip(323, 12).foldsAgain(0), 1);
        Due.due("without an order", strip(323, 11).foldsAgain(0), 0);
        Due.due("1 with several orders", strip(9999999, 111111).foldsAgain(0), 1);
        Due.due("with an undecided crease", strip(323, 10).foldsAgain(0), NOTHING);
        Due.due("of a corner", corner(6666, 1112).foldsAgain(0), BAD);
        Due.due("a corner ahead of an undecided crease", corner(6666, 0).foldsAgain(0), BAD);
    }

    private static void stepAndStepsReturn() {
        FoldedTheatre x = strip(323, 12);
        Due.due("step", x.step(0), 11);
        Due.due("steps", x.steps(0), 1);
        x.mark(0, 1, 1);
        Due.due("step, if there is none", x.step(0), NOTHING);
        Due.due("steps, if there is none", x.steps(0), 0);
        x.mark(0, 1, 0);
        Due.due("step with an undecided crease", x.step(0), NOTHING);
        Due.due("steps with an undecided crease", x.steps(0), NOTHING);
        Due.due("step 1 does not help an undecided strip", strip(123, 10).step(0), NOTHING);
        Due.due("steps of an undecided corner", corner(6666, 1110).steps(0), NOTHING);
        Due.due("step of an undecided corner", corner(6666, 1220).step(0), NOTHING);
        Due.due("most steps of a strip", strip(1111111, 121212).steps(0), 6);
        Due.due("most steps of a corner", corner(33333333, 12121212).steps(0), 3);
        Due.due("the angle 0", corner(6666, 1211).step(0), 10);
        Due.due("the last angle of 8", corner(53531151, 11111112).step(0), 17);
    }

    private static void waysReturns() {
        Due.due("all of 2", strip(12, 0).ways(0), 2);
        Due.due("all of 64", strip(9999999, 0).ways(0), 64);
        Due.due("with one undecided", strip(9999999, 111110).ways(0), 2);
        Due.due("with none undecided that folds", strip(323, 12).ways(0), 1);
        Due.due("with none undecided that does not", strip(323, 11).ways(0), 0);
        Due.due("one of two", strip(323, 10).ways(0), 1);
        Due.due("a corner, all undecided", corner(6666, 0).ways(0), 8);
        Due.due("a corner with one undecided", corner(6666, 1110).ways(0), 1);
        Due.due("a corner with the first one as the only mountain", corner(6666, 1220).ways(0), 1);
        Due.due("a corner that cannot fold", corner(7566, 0).ways(0), 0);
        Due.due("a corner of 8 with 3 or 5 mountains", corner(33333333, 0).ways(0), 112);
        FoldedTheatre x = strip(323, 12);
        x.fold(0);
        Due.due("of a folded piece", x.ways(0), 1);
    }

    private static void fewestReturns() {
        Due.due("if it folds", strip(323, 12).fewest(0), 0);
        Due.due("if it folds with mountains alone", strip(9999999, 111111).fewest(0), 0);
        Due.due("if it folds with valleys alone", strip(9999999, 222222).fewest(0), 0);
        Due.due("if one is wrong", strip(323, 11).fewest(0), 1);
        Due.due("undecided ones do not count", strip(323, 0).fewest(0), 0);
        Due.due("undecided ones do not count", strip(323, 10).fewest(0), 0);
        Due.due("a corner that cannot fold", corner(7566, 1112).fewest(0), NOTHING);
        Due.due("an undecided corner that cannot fold", corner(7566, 0).fewest(0), NOTHING);
        Due.due("1 of 4 mountains", corner(6666, 1111).fewest(0), 1);
        Due.due("1 of 2 and 2", corner(6666, 1122).fewest(0), 1);
        Due.due("2 of 6 mountains", corner(444444, 111111).fewest(0), 2);
        Due.due("3 of 8 mountains", corner(33333333, 11111111).fewest(0), 3);
        Due.due("3 of 8 valleys", corner(33333333, 22222222).fewest(0), 3);
        Due.due("2 of 7 mountains and one undecided", corner(33333333, 1111111).fewest(0), 2);
        Due.due("0 of 5 mountains and 3 undecided", corner(33333333, 11111000).fewest(0), 0);
        Due.due("1 of 6 mountains and 2 undecided", corner(33333333, 11111100).fewest(0), 1);
    }

    private static void placeReturns() {
        FoldedTheatre x = strip(12, 0);
        x.add(0, 1919191, 0);
        x.add(1, 6666, 0);
        Due.due("place(0, 0)", x.place(0, 0), 0);
        Due.due("place(0, 1)", x.place(0, 1), 1);
        Due.due("place(0, 2), where the last one ends", x.place(0, 2), -1);
        Due.due("place(0, 3)", x.place(0, 3), NONE);
        Due.due("place(1, 6), less than 0", x.place(1, 6), -24);
        Due.due("place(1, 7), where the last one ends", x.place(1, 7), -23);
        Due.due("place(1, 8)", x.place(1, 8), NONE);
        for (int panel : EXTREMES) {
            Due.due("place(0, " + panel + ")", x.place(0, panel), NONE);
            Due.due("place(2, " + panel + ") of a corner", x.place(2, panel), BAD);
        }
        Due.due("place(2, 4) of a corner", x.place(2, 4), BAD);
        Due.due("place(2, 5) of a corner", x.place(2, 5), BAD);
        Due.due("place(3, 0)", x.place(3, 0), NONE);
    }

    private static void layerReturns() {
        FoldedTheatre x = strip(323, 12);
        x.add(1, 6666, 0);
        Due.due("layer(0, 0)", x.layer(0, 0), 2);
        Due.due("layer(0, 2)", x.layer(0, 2), 0);
        Due.due("layer(0, 3)", x.layer(0, 3), NONE);
        x.mark(0, 1, 1);
        Due.due("layer without an order", x.layer(0, 0), NOTHING);
        Due.due("layer without an order, of the last panel", x.layer(0, 2), NOTHING);
        Due.due("no such panel ahead of no order", x.layer(0, 3), NONE);
        x.mark(0, 1, 0);
        Due.due("layer with an undecided crease", x.layer(0, 2), NOTHING);
        Due.due("no such panel ahead of an undecided crease", x.layer(0, 3), NONE);
        for (int panel : EXTREMES) {
            Due.due("layer(0, " + panel + ")", x.layer(0, panel), NONE);
            Due.due("layer(1, " + panel + ") of an undecided corner", x.layer(1, panel), BAD);
        }
        Due.due("layer(1, 0) of an undecided corner", x.layer(1, 0), BAD);
        Due.due("layer(1, 4) of an undecided corner", x.layer(1, 4), BAD);
        Due.due("layer of the last of 7 panels", strip(1111111, 212121).layer(0, 6), 6);
        Due.due("layer of an eighth of 7 panels", strip(1111111, 212121).layer(0, 7), NONE);
    }

    private static void ordersReturns() {
        Due.due("none", strip(323, 11).orders(0), 0);
        Due.due("one", strip(323, 12).orders(0), 1);
        Due.due("two", strip(333, 22).orders(0), 2);
        Due.due("of a corner", corner(6666, 1112).orders(0), BAD);
        Due.due("a corner ahead of an undecided crease", corner(6666, 0).orders(0), BAD);
        Due.due("with an undecided crease", strip(333, 20).orders(0), NOTHING);
        Due.due("with the first crease undecided", strip(333, 2).orders(0), NOTHING);
    }

    private static void thickestReturns() {
        Due.due("two panels", strip(11, 0).thickest(0), 2);
        Due.due("thickest of 12", strip(12, 0).thickest(0), 2);
        // The last panel ends where the first one begins, or lies over it.
        Due.due("thickest of 121", strip(121, 0).thickest(0), 2);
        Due.due("thickest of 122", strip(122, 0).thickest(0), 3);
        Due.due("thickest of 1322", strip(1322, 0).thickest(0), 3);
        Due.due("thickest of 1332", strip(1332, 0).thickest(0), 4);
        // The same at the right end of the first one.
        Due.due("thickest of 2132", strip(2132, 0).thickest(0), 3);
        Due.due("thickest of 2133", strip(2133, 0).thickest(0), 4);
        Due.due("thickest of 1919191", strip(1919191, 0).thickest(0), 3);
        Due.due("thickest of 1111111", strip(1111111, 0).thickest(0), 7);
        Due.due("of a corner", corner(6666, 1112).thickest(0), BAD);
    }

    private static void reflectedReturns() {
        // The creases 0, 5, 12, 18: 0, 10, 14, 22.
        Due.due("reflected of 5766", corner(5766, 0).reflected(0), 22);
        // The creases 0, 7, 12, 18: 0, 14, 10, 26, which is 2.
        Due.due("reflected of 7566", corner(7566, 0).reflected(0), 2);
        // The creases 0, 9, 10, 19: 0, 18, 2, 36, which is 12.
        Due.due("reflected of 9195", corner(9195, 0).reflected(0), 12);
        // The creases 0, 9, 12, 21: 0, 18, 6, 36, which is 12.
        Due.due("reflected of 9393", corner(9393, 0).reflected(0), 12);
        // The creases 0, 6, 12, 18: 0, 12, 12, 24, which is 0.
        Due.due("reflected of 6666", corner(6666, 0).reflected(0), 0);
        // The creases 0, 1, 2, 3, 4, 5, 14, 15: 0, 2, 2, 4, 4, 6, 22, 8.
        Due.due("reflected of 11111919", corner(11111919, 0).reflected(0), 8);
        Due.due("of a strip", strip(6666, 0).reflected(0), BAD);
    }

    // ---- 28 to 30

    private static void refusalReturns() {
        FoldedTheatre x = strip(12, 1);
        int[] beyond = {-1, 3, Integer.MAX_VALUE, Integer.MIN_VALUE};
        for (int what : beyond) {
            Due.due("refusal(" + what + "), ahead of nothing that was refused", x.refusal(what), BAD);
        }
        for (int what = 0; what <= 2; what++) {
            Due.due("refusal(" + what + ") if nothing was refused", x.refusal(what), NOTHING);
        }
        x.unfold(0);
        int[] due = {2, 0, NOTHING};
        for (int what = 0; what <= 2; what++) {
            Due.due("refusal(" + what + ")", x.refusal(what), due[what]);
        }
        for (int what : beyond) {
            Due.due("refusal(" + what + ")", x.refusal(what), BAD);
        }
        Due.due("read", Due.read(x, "u0"), REFUSED);
        Due.due("the command in its text, from 0", x.refusal(2), 0);
        Due.due("read", Due.read(x, "t0;u0"), REFUSED);
        Due.due("the command in its text", x.refusal(2), 1);
        x.unfold(0);
        Due.due("another call than read", x.refusal(2), NOTHING);
    }

    private static void accountReturns() {
        FoldedTheatre x = new FoldedTheatre();
        for (int what : new int[] {-1, 13, Integer.MAX_VALUE, Integer.MIN_VALUE}) {
            Due.due("account(" + what + ")", x.account(what), BAD);
        }
        int[] empty = {0, 0, 0, 0, 30, 30, 0, 0, 0, 0, 0, 0, 0};
        for (int what = 0; what <= 12; what++) {
            Due.due("account(" + what + ") of a new object", x.account(what), empty[what]);
        }
        for (int i = 0; i < 7; i++) {
            x.add(1, 33333333, 22222222);
        }
        x.add(0, 1111111, 111110);
        int[] full = {8, 1, 7, 0, 30, 30, 7, 5, 56, 1, 0, 0, 8};
        for (int what = 0; what <= 12; what++) {
            Due.due("account(" + what + ") with 8 pieces", x.account(what), full[what]);
        }
    }

    private static void accountOfFoldedPieces() {
        FoldedTheatre x = full();
        Due.due("the panels", x.account(6), 16);
        for (int folded = 1; folded <= 8; folded++) {
            Due.due("fold", x.fold(folded - 1), 2);
            Due.due("those that are folded", x.account(3), folded);
            Due.due("the width that is free", x.account(5), 30 - 2 * folded);
            Due.due("how often something was folded", x.account(10), folded);
        }
        x.unfold(0);
        Due.due("those that are folded", x.account(3), 7);
        x.drop(7);
        Due.due("those that are folded", x.account(3), 6);
        Due.due("the panels", x.account(6), 14);
        Due.due("the width that is free", x.account(5), 18);
        Due.due("how often something was folded", x.account(10), 8);
    }

    private static void foldsAsUndoAndRestoreLeaveThem() {
        FoldedTheatre x = strip(323, 12);
        x.save();
        x.fold(0);
        x.unfold(0);
        x.fold(0);
        Due.due("folded twice", x.account(10), 2);
        x.undo();
        Due.due("once", x.account(10), 1);
        x.undo();
        Due.due("unfold does not count", x.account(10), 1);
        x.drop(0);
        Due.due("a piece that is gone counts", x.account(10), 1);
        x.restore();
        Due.due("as restore leaves it", x.account(10), 0);
        Due.due("read", Due.read(x, "f0;u0;f0;u0"), 4);
        Due.due("by a text", x.account(10), 2);
        Due.due("read", Due.read(x, "f0;u0;u0"), REFUSED);
        Due.due("not by a text that is refused", x.account(10), 2);
        x.undo();
        Due.due("as undo leaves it", x.account(10), 0);
    }

    private static void shareReturns() {
        FoldedTheatre x = new FoldedTheatre();
        Due.due("without pieces", x.share(), NOTHING);
        x.add(0, 12, 0);
        Due.due("0 of 1", x.share(), 0);
        x.mark(0, 0, 1);
        Due.due("1 of 1", x.share(), 1065353216);
        x.mark(0, 0, 2);
        Due.due("a valley is decided, too", x.share(), 1065353216);
        x.add(0, 12, 0);
        Due.due("1 of 2", x.share(), 1056964608);
        x.add(0, 12, 0);
        Due.due("1 of 3", x.share(), 1051372203);
        x.mark(1, 0, 2);
        Due.due("2 of 3", x.share(), 1059760811);
        x.drop(2);
        x.drop(1);
        x.drop(0);
        Due.due("without pieces again", x.share(), NOTHING);
        FoldedTheatre y = new FoldedTheatre();
        for (int i = 0; i < 8; i++) {
            y.add(1, 33333333, i == 0 ? 1 : 0);
        }
        Due.due("1 of 64", y.share(), Float.floatToIntBits(1f / 64f));
        for (int i = 0; i < 63; i++) {
            y.mark(i / 8, i % 8, 1 + i % 2);
        }
        Due.due("63 of 64", y.share(), Float.floatToIntBits(63f / 64f));
        y.mark(7, 7, 2);
        Due.due("64 of 64", y.share(), Float.floatToIntBits(1f));
    }

    private static void piecesThatAreNotThere() {
        noSuchPiece("mark", 0, 22, 1, (x, piece) -> x.mark(piece, 0, 1));
        noSuchPiece("turn", 0, 22, 1, (x, piece) -> x.turn(piece));
        noSuchPiece("rotate", 1, 6666, 0, (x, piece) -> x.rotate(piece, 0));
        noSuchPiece("cut", 0, 2222, 0, (x, piece) -> x.cut(piece, 1));
        noSuchPiece("fold", 0, 22, 1, (x, piece) -> x.fold(piece));
        noSuchPiece("unfold", 0, 22, 1, (x, piece) -> x.unfold(piece));
        noSuchPiece("drop", 0, 22, 1, (x, piece) -> x.drop(piece));
        noSuchPiece("piece", 0, 22, 1, (x, piece) -> x.piece(piece, 0));
        noSuchPiece("size", 0, 22, 1, (x, piece) -> x.size(piece, 0));
        noSuchPiece("crease", 0, 22, 1, (x, piece) -> x.crease(piece, 0));
        noSuchPiece("why", 0, 22, 1, (x, piece) -> x.why(piece));
        noSuchPiece("foldsAgain", 0, 22, 1, (x, piece) -> x.foldsAgain(piece));
        noSuchPiece("step", 0, 22, 1, (x, piece) -> x.step(piece));
        noSuchPiece("steps", 0, 22, 1, (x, piece) -> x.steps(piece));
        noSuchPiece("ways", 0, 22, 1, (x, piece) -> x.ways(piece));
        noSuchPiece("fewest", 0, 22, 1, (x, piece) -> x.fewest(piece));
        noSuchPiece("place", 0, 22, 1, (x, piece) -> x.place(piece, 0));
        noSuchPiece("layer", 0, 22, 1, (x, piece) -> x.layer(piece, 0));
        noSuchPiece("orders", 0, 22, 1, (x, piece) -> x.orders(piece));
        noSuchPiece("thickest", 0, 22, 1, (x, piece) -> x.thickest(piece));
        noSuchPiece("reflected", 1, 6666, 0, (x, piece) -> x.reflected(piece));
    }

    public static void main(String[] args) {
        Due.test("1: without pieces", BoundaryCallsTest::withoutPieces);
        Due.test("2: stage, out of range and refused", BoundaryCallsTest::stageReturns);
        Due.test("3: add, not more digits than creases", BoundaryCallsTest::notMoreDigitsThanCreases);
        Due.test("3: add, creases from 0 to 2", BoundaryCallsTest::creaseDigitsFromZeroToTwo);
        Due.test("3: add, BAD ahead of REFUSED", BoundaryCallsTest::addReturns);
        Due.test("4: mark", BoundaryCallsTest::markReturns);
        Due.test("5: turn", BoundaryCallsTest::turnReturns);
        Due.test("6: rotate", BoundaryCallsTest::rotateReturns);
        Due.test("7: join, no such piece or both the same", BoundaryCallsTest::joinOfPieces);
        Due.test("7: join, at most 7 panels", BoundaryCallsTest::joinToSevenPanels);
        Due.test("7: join, as if the second one was dropped", BoundaryCallsTest::joinNumbers);
        Due.test("7: join, refused, the first piece first", BoundaryCallsTest::joinRefusals);
        Due.test("8: cut, the parts", BoundaryCallsTest::cutParts);
        Due.test("8: cut, refused", BoundaryCallsTest::cutRefusals);
        Due.test("9: fold", BoundaryCallsTest::foldReturns);
        Due.test("9: fold, what stands in the way", BoundaryCallsTest::foldTellsWhatStandsInTheWay);
        Due.test("10: unfold", BoundaryCallsTest::unfoldReturns);
        Due.test("11: drop", BoundaryCallsTest::dropReturns);
        Due.test("12: piece", BoundaryCallsTest::pieceReturns);
        Due.test("13: size", BoundaryCallsTest::sizeReturns);
        Due.test("14: crease", BoundaryCallsTest::creaseReturns);
        Due.test("16: foldsAgain", BoundaryCallsTest::foldsAgainReturns);
        Due.test("17 and 18: step and steps", BoundaryCallsTest::stepAndStepsReturn);
        Due.test("19: ways", BoundaryCallsTest::waysReturns);
        Due.test("20: fewest", BoundaryCallsTest::fewestReturns);
        Due.test("21: place", BoundaryCallsTest::placeReturns);
        Due.test("22: layer", BoundaryCallsTest::layerReturns);
        Due.test("23: orders", BoundaryCallsTest::ordersReturns);
        Due.test("24: thickest", BoundaryCallsTest::thickestReturns);
        Due.test("25: reflected", BoundaryCallsTest::reflectedReturns);
        Due.test("28: refusal", BoundaryCallsTest::refusalReturns);
        Due.test("29: account", BoundaryCallsTest::accountReturns);
        Due.test("29: account of folded pieces", BoundaryCallsTest::accountOfFoldedPieces);
        Due.test("29: how often something was folded", BoundaryCallsTest::foldsAsUndoAndRestoreLeaveThem);
        Due.test("30: share", BoundaryCallsTest::shareReturns);
        Due.test("4 to 25: NONE if there is no such piece", BoundaryCallsTest::piecesThatAreNotThere);
        Due.finish();
    }
}
