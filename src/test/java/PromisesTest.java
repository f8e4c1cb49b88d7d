/** Each promise of the document with ordinary inputs, the edges that it names, and wrong inputs. */
public final class PromisesTest extends Theatres {
    private PromisesTest() {
    }

    /** 1 */
    private static void newObject() {
        FoldedTheatre x = new FoldedTheatre();
        for (int what = 0; what <= 12; what++) {
            Due.due("account(" + what + ") of a new object", x.account(what), what == 4 || what == 5 ? 30 : 0);
        }
        Due.due("share of a new object", x.share(), NOTHING);
        Due.due("undo of a new object", x.undo(), NOTHING);
        Due.due("restore of a new object", x.restore(), NOTHING);
        Due.due("refusal of a new object", x.refusal(0), NOTHING);
        FoldedTheatre other = with(0, 12, 1);
        Due.due("two objects have nothing in common", x.account(0), other.account(0) - 1);
    }

    /** 2 */
    private static void stage() {
        FoldedTheatre x = with(0, 59, 1);
        Due.due("stage(1)", x.stage(1), 30);
        Due.due("stage(99)", x.stage(99), 1);
        Due.due("stage(99) again", x.stage(99), 99);
        for (int width : new int[] {0, -1, 100, Integer.MAX_VALUE, Integer.MIN_VALUE}) {
            Due.due("stage(" + width + ")", x.stage(width), BAD);
        }
        Due.due("the width", x.account(4), 99);
        Due.due("fold(0)", x.fold(0), 9);
        refused(x, "stage(8)", x.stage(8), 7, 1);
        refused(x, "stage(1)", x.stage(1), 7, 8);
        Due.due("stage(0) with a folded piece", x.stage(0), BAD);
        Due.due("the width", x.account(4), 99);
        Due.due("stage(9)", x.stage(9), 99);
        Due.due("unfold(0)", x.unfold(0), 9);
        Due.due("stage(1)", x.stage(1), 9);
    }

    /** 3 */
    private static void add() {
        FoldedTheatre x = new FoldedTheatre();
        int[][] bad = {{2, 12, 1}, {-1, 12, 1}, {0, 0, 0}, {0, 1, 0}, {0, 9, 0}, {0, 12345678, 1}, {0, 10, 1},
            {0, 102, 1}, {0, -12, 1}, {0, 12, 3}, {0, 12, 9}, {0, 12, 10}, {0, 123, 100}, {0, 123, 13}, {0, 123, 31},
            {0, 123, -1}, {0, 123, -11}, {0, 1111111111, 1}, {0, Integer.MAX_VALUE, 1}, {0, Integer.MIN_VALUE, 1},
            {0, 12, Integer.MAX_VALUE}, {0, 12, Integer.MIN_VALUE}, {1, 6666, 3}, {1, 6666, 11111}, {1, 6666, -1},
            {1, 6667, 1111}, {1, 6665, 1111}, {1, 999, 111}, {1, 66, 11}, {1, 84444, 1}, {1, 3333336, 1},
            {1, 333333330, 1}, {1, 333333333, 1}, {1, 60666, 1}, {1, 9960, 1}, {1, 12, 1}, {1, 0, 0}, {1, -6666, 1}};
        for (int[] call : bad) {
            Due.due("add(" + call[0] + ", " + call[1] + ", " + call[2] + ")", x.add(call[0], call[1], call[2]), BAD);
        }
        Due.due("no piece is added", x.account(0), 0);
        Due.due("no change", x.account(12), 0);
        int[][] right = {{0, 12, 0}, {0, 99, 2}, {0, 1234567, 121212}, {0, 1111111, 0}, {1, 6666, 0},
            {1, 993111, 222111}, {1, 33333333, 22222222}, {1, 9113, 0}};
        for (int i = 0; i < 7; i++) {
            Due.due("add of " + right[i][1], x.add(right[i][0], right[i][1], right[i][2]), i);
        }
        Due.due("add(1, 9113, 0)", x.add(1, 9113, 0), BAD);
        Due.due("add(1, 9393, 0)", x.add(1, 9393, 21), 7);
        int[] creases = {0, 0, 2, 1};
        for (int i = 0; i < 4; i++) {
            Due.due("creases begin with 0", x.crease(7, i), creases[i]);
        }
        Due.due("sizes, the first one first", x.size(2, 0) * 100 + x.size(2, 1) * 10 + x.size(2, 6), 127);
        Due.due("creases, the first one first", x.crease(5, 0) * 10 + x.crease(5, 5), 21);
        Due.due("it is not folded", x.account(3), 0);
        Due.due("eight creases", x.piece(6, 4), 8);
        Due.due("what is wrong is told ahead of what is refused", x.add(0, 12, 3), BAD);
        Due.due("nothing was refused", x.refusal(0), NOTHING);
        refused(x, "add of a ninth", x.add(0, 12, 1), 1, 8);
        Due.due("drop(0)", x.drop(0), 7);
        Due.due("add of an eighth", x.add(0, 12, 1), 7);
    }

    /** 4 */
    private static void mark() {
        FoldedTheatre x = with(0, 323, 12);
        Due.due("mark(0, 0, 0)", x.mark(0, 0, 0), 1);
        Due.due("mark(0, 0, 2)", x.mark(0, 0, 2), 0);
        Due.due("mark(0, 0, 2) again", x.mark(0, 0, 2), 2);
        Due.due("crease(0, 0)", x.crease(0, 0), 2);
        Due.due("crease(0, 1)", x.crease(0, 1), 2);
        Due.due("mark(0, 1, 1)", x.mark(0, 1, 1), 2);
        Due.due("mark(0, 2, 1), as 3 panels have 2 creases", x.mark(0, 2, 1), NONE);
        Due.due("mark(0, -1, 1)", x.mark(0, -1, 1), NONE);
        Due.due("mark(0, 2, 3)", x.mark(0, 2, 3), NONE);
        Due.due("mark(0, 0, 3)", x.mark(0, 0, 3), BAD);
        Due.due("mark(0, 0, -1)", x.mark(0, 0, -1), BAD);
        x.add(1, 6666, 1112);
        Due.due("mark(1, 3, 0), as 4 angles have 4 creases", x.mark(1, 3, 0), 2);
        Due.due("mark(1, 4, 0)", x.mark(1, 4, 0), NONE);
        for (int piece : NO_PIECES) {
            Due.due("mark(" + piece + ", 0, 1)", x.mark(piece, 0, 1), NONE);
        }
        x.mark(0, 0, 1);
        x.mark(0, 1, 2);
        Due.due("fold(0)", x.fold(0), 4);
        refused(x, "mark of a folded piece", x.mark(0, 0, 1), 2, 0);
        Due.due("mark(0, 0, 3) of a folded piece", x.mark(0, 0, 3), BAD);
        Due.due("mark(0, 2, 1) of a folded piece", x.mark(0, 2, 1), NONE);
    }

    /** 5 */
    private static void turn() {
        FoldedTheatre x = with(0, 1234, 102);
        Due.due("turn(0)", x.turn(0), 2);
        Due.due("crease(0, 0)", x.crease(0, 0), 2);
        Due.due("crease(0, 1)", x.crease(0, 1), 0);
        Due.due("crease(0, 2)", x.crease(0, 2), 1);
        Due.due("size(0, 0)", x.size(0, 0), 1);
        Due.due("size(0, 3)", x.size(0, 3), 4);
        x.add(1, 5757, 0);
        Due.due("turn of an undecided piece", x.turn(1), 0);
        x.add(1, 6666, 1112);
        Due.due("turn of a corner", x.turn(2), 4);
        Due.due("its mountains", x.piece(2, 3), 1);
        Due.due("its last crease", x.crease(2, 3), 1);
        Due.due("fold(2)", x.fold(2), 6);
        refused(x, "turn of a folded piece", x.turn(2), 2, 2);
        Due.due("its mountains", x.piece(2, 3), 1);
        for (int piece : NO_PIECES) {
            Due.due("turn(" + piece + ")", x.turn(piece), NONE);
        }
    }

    /** 6 */
    private static void rotate() {
        FoldedTheatre x = with(1, 395511, 120012);
        Due.due("rotate(0, 2)", x.rotate(0, 2), 551139);
        int[] creases = {0, 0, 1, 2, 1, 2};
        for (int i = 0; i < 6; i++) {
            Due.due("crease(0, " + i + ")", x.crease(0, i), creases[i]);
        }
        Due.due("size(0, 4)", x.size(0, 4), 3);
        Due.due("rotate(0, 0)", x.rotate(0, 0), 551139);
        Due.due("rotate(0, 5)", x.rotate(0, 5), 955113);
        Due.due("rotate(0, 6)", x.rotate(0, 6), NONE);
        Due.due("rotate(0, -1)", x.rotate(0, -1), NONE);
        for (int piece : NO_PIECES) {
            Due.due("rotate(" + piece + ", 0)", x.rotate(piece, 0), NONE);
        }
        Due.due("add", x.add(0, 323, 12), 1);
        refused(x, "rotate of a strip", x.rotate(1, 1), 3, 1);
        Due.due("rotate of a strip at a crease that it has not", x.rotate(1, 2), NONE);
        Due.due("fold(1)", x.fold(1), 4);
        refused(x, "rotate of a folded strip", x.rotate(1, 1), 2, 1);
        Due.due("add", x.add(1, 12345621, 0), 2);
        Due.due("rotate of eight angles", x.rotate(2, 7), 11234562);
        Due.due("add", x.add(1, 6666, 2221), 3);
        Due.due("fold(3)", x.fold(3), 6);
        refused(x, "rotate of a folded corner", x.rotate(3, 0), 2, 3);
        Due.due("undo of fold", x.undo() >= 0);
        Due.due("rotate(3, 3)", x.rotate(3, 3), 6666);
        Due.due("crease(3, 0)", x.crease(3, 0), 1);
    }

    /** 7 */
    private static void join() {
        FoldedTheatre x = with(0, 123, 12);
        x.add(1, 6666, 1112);
        x.add(0, 45, 0);
        x.add(1, 4848, 0);
        x.add(0, 6789, 211);
        Due.due("join(2, 4, 2)", x.join(2, 4, 2), 6);
        Due.due("pieces", x.account(0), 4);
        int[] sizes = {4, 5, 6, 7, 8, 9};
        int[] creases = {0, 2, 2, 1, 1};
        for (int i = 0; i < 6; i++) {
            Due.due("size(2, " + i + ")", x.size(2, i), sizes[i]);
            Due.due("crease(2, " + i + ")", x.crease(2, i), i == 5 ? NONE : creases[i]);
        }
        refused(x, "join(0, 2, 1)", x.join(0, 2, 1), 6, 9);
        refused(x, "join(1, 0, 1)", x.join(1, 0, 1), 3, 1);
        refused(x, "join(0, 1, 1)", x.join(0, 1, 1), 3, 1);
        refused(x, "join(3, 1, 1)", x.join(3, 1, 1), 3, 3);
        Due.due("join(0, 0, 1)", x.join(0, 0, 1), NONE);
        Due.due("join(0, 0, 3)", x.join(0, 0, 3), NONE);
        Due.due("join(0, 4, 1)", x.join(0, 4, 1), NONE);
        Due.due("join(4, 0, 3)", x.join(4, 0, 3), NONE);
        Due.due("join(-1, 0, 1)", x.join(-1, 0, 1), NONE);
        Due.due("join(0, 2, 3)", x.join(0, 2, 3), BAD);
        Due.due("join(0, 1, -1)", x.join(0, 1, -1), BAD);
        Due.due("fold(1)", x.fold(1), 6);
        refused(x, "join with a folded corner", x.join(3, 1, 1), 2, 1);
        Due.due("fold(0)", x.fold(0), 3);
        refused(x, "join(0, 2, 1) folded", x.join(0, 2, 1), 2, 0);
        refused(x, "join(2, 0, 1) folded", x.join(2, 0, 1), 2, 0);
        refused(x, "join(1, 0, 1) both folded", x.join(1, 0, 1), 2, 1);
        refused(x, "join(0, 1, 1) both folded", x.join(0, 1, 1), 2, 0);
        FoldedTheatre y = with(0, 12, 1);
        y.add(0, 3456, 0);
        Due.due("join of a later strip to an earlier one", y.join(1, 0, 1), 6);
        Due.due("it has the number 0 then", y.size(0, 0) * 10 + y.size(0, 5), 32);
        Due.due("the new crease", y.crease(0, 3) * 10 + y.crease(0, 4), 11);
        y.add(0, 11, 0);
        refused(y, "join to 8 panels", y.join(0, 1, 0), 6, 8);
        Due.due("cut(0, 1)", y.cut(0, 1), 2);
        Due.due("join(0, 2, 2)", y.join(0, 2, 2), 6);
        y.add(0, 11111, 0);
        Due.due("join to 7 panels", y.join(2, 1, 0), 7);
    }

    /** 8 */
    private static void cut() {
        FoldedTheatre x = with(0, 1234567, 121021);
        x.add(0, 99, 1);
        Due.due("cut(0, 2)", x.cut(0, 2), 2);
        Due.due("the left part", x.piece(0, 1) * 100 + x.size(0, 0) * 10 + x.size(0, 2), 313);
        Due.due("its creases", x.crease(0, 0) * 10 + x.crease(0, 1), 12);
        Due.due("it has two creases", x.crease(0, 2), NONE);
        Due.due("the other part", x.piece(2, 1) * 100 + x.size(2, 0) * 10 + x.size(2, 3), 447);
        Due.due("its creases", x.crease(2, 0) * 100 + x.crease(2, 1) * 10 + x.crease(2, 2), 21);
        Due.due("it is not folded", x.piece(2, 7), 0);
        refused(x, "cut(0, 0)", x.cut(0, 0), 6, 1);
        refused(x, "cut(0, 1)", x.cut(0, 1), 6, 1);
        refused(x, "cut(1, 0)", x.cut(1, 0), 6, 1);
        Due.due("cut(0, 2)", x.cut(0, 2), NONE);
        Due.due("cut(0, -1)", x.cut(0, -1), NONE);
        for (int piece : NO_PIECES) {
            Due.due("cut(" + piece + ", 0)", x.cut(piece, 0), NONE);
        }
        Due.due("add", x.add(1, 6666, 1112), 3);
        refused(x, "cut of a corner", x.cut(3, 3), 3, 3);
        Due.due("cut(3, 4)", x.cut(3, 4), NONE);
        Due.due("fold(1)", x.fold(1), 9);
        refused(x, "cut of a folded strip", x.cut(1, 0), 2, 1);
        Due.due("fold(3)", x.fold(3), 6);
        refused(x, "cut of a folded corner", x.cut(3, 0), 2, 3);
        for (int i = 4; i < 8; i++) {
            x.add(0, 11, 0);
        }
        refused(x, "cut with 8 pieces", x.cut(2, 1), 1, 8);
        refused(x, "cut of a folded strip with 8 pieces", x.cut(1, 0), 1, 8);
        Due.due("drop(7)", x.drop(7), 7);
        Due.due("cut with 7 pieces", x.cut(2, 1), 7);
        Due.due("size(7, 0)", x.size(7, 0), 6);
        FoldedTheatre y = with(0, 2222, 121);
        y.add(1, 6666, 1112);
        Due.due("cut behind a corner", y.cut(0, 1), 2);
        Due.due("the other part is a strip", y.piece(2, 0), 0);
        Due.due("it has a crease", y.piece(2, 2), 1);
    }

    /** 9 */
    private static void fold() {
        FoldedTheatre x = with(0, 323, 12);
        Due.due("fold(0)", x.fold(0), 4);
        refused(x, "fold(0) again", x.fold(0), 2, 0);
        x.add(0, 323, 10);
        refused(x, "fold of an undecided strip", x.fold(1), 4, 1);
        x.mark(1, 0, 0);
        refused(x, "fold of an undecided strip", x.fold(1), 4, 0);
        x.mark(1, 0, 1);
        x.mark(1, 1, 1);
        refused(x, "fold of a strip that does not fold", x.fold(1), 5, 5);
        int[][] corners = {{7566, 1112, 1}, {6666, 1122, 2}, {4587, 1112, 3}, {444444, 111112, 2}};
        for (int[] corner : corners) {
            int piece = x.add(1, corner[0], corner[1]);
            refused(x, "fold of " + corner[0], x.fold(piece), 5, corner[2]);
            x.drop(piece);
        }
        Due.due("add", x.add(1, 6666, 1110), 2);
        refused(x, "fold of an undecided corner", x.fold(2), 4, 3);
        x.mark(2, 3, 2);
        Due.due("stage(10)", x.stage(10), 30);
        Due.due("fold with the whole stage taken", x.fold(2), 6);
        Due.due("free", x.account(5), 0);
        x.add(0, 12, 2);
        refused(x, "fold without width", x.fold(3), 7, 2);
        Due.due("it is not folded", x.piece(3, 7), 0);
        Due.due("stage(11)", x.stage(11), 10);
        refused(x, "fold with too little width", x.fold(3), 7, 1);
        Due.due("account(10)", x.account(10), 2);
        for (int piece : NO_PIECES) {
            Due.due("fold(" + piece + ")", x.fold(piece), NONE);
        }
    }

    /** 10 */
    private static void unfold() {
        FoldedTheatre x = with(0, 323, 12);
        x.add(0, 59, 2);
        refused(x, "unfold of a piece that is not folded", x.unfold(1), 2, 1);
        x.fold(0);
        x.fold(1);
        Due.due("free", x.account(5), 17);
        Due.due("unfold(0)", x.unfold(0), 21);
        refused(x, "unfold(0) again", x.unfold(0), 2, 0);
        Due.due("it is not folded", x.piece(0, 7), 0);
        Due.due("unfold(1)", x.unfold(1), 30);
        Due.due("how often something was folded", x.account(10), 2);
        for (int piece : NO_PIECES) {
            Due.due("unfold(" + piece + ")", x.unfold(piece), NONE);
        }
        Due.due("mark(0, 0, 2)", x.mark(0, 0, 2), 1);
    }

    /** 11 */
    private static void drop() {
        FoldedTheatre x = with(0, 12, 1);
        x.add(0, 34, 2);
        x.add(0, 56, 0);
        Due.due("fold(1)", x.fold(1), 4);
        Due.due("drop(0)", x.drop(0), 2);
        Due.due("later numbers decrease by 1", x.size(0, 0) * 10 + x.size(1, 0), 35);
        Due.due("it is folded still", x.piece(0, 7), 1);
        Due.due("drop of a folded piece", x.drop(0), 1);
        Due.due("its width is free", x.account(5), 30);
        Due.due("size(0, 1)", x.size(0, 1), 6);
        Due.due("drop(1)", x.drop(1), NONE);
        Due.due("drop(0)", x.drop(0), 0);
        Due.due("drop(0)", x.drop(0), NONE);
        for (int piece : NO_PIECES) {
            Due.due("drop(" + piece + ")", x.drop(piece), NONE);
        }
        FoldedTheatre y = full();
        Due.due("drop(7)", y.drop(7), 7);
        Due.due("drop(7)", y.drop(7), NONE);
    }

    /** 12 */
    private static void piece() {
        FoldedTheatre x = with(0, 31413, 1201);
        int[] strip = {0, 5, 4, 2, 1, 1, 12, 0, 8};
        int[] corner = {1, 6, 6, 5, 1, 0, 24, 0, 9};
        x.add(1, 395511, 111112);
        for (int what = 0; what <= 8; what++) {
            Due.due("piece(0, " + what + ")", x.piece(0, what), strip[what]);
            Due.due("piece(1, " + what + ")", x.piece(1, what), corner[what]);
        }
        Due.due("piece(0, 9)", x.piece(0, 9), BAD);
        Due.due("piece(0, -1)", x.piece(0, -1), BAD);
        Due.due("piece(2, 9)", x.piece(2, 9), NONE);
        x.add(0, 59, 1);
        Due.due("the width does not need a crease", x.piece(2, 8), 9);
        Due.due("the greatest angle is the first one", with(1, 9258, 0).piece(0, 8), 9);
        Due.due("the greatest angle is the last one", with(1, 2589, 0).piece(0, 8), 9);
        Due.due("places at the left of the first one", with(0, 1919191, 0).piece(0, 8), 25);
        x.fold(2);
        Due.due("piece(2, 7)", x.piece(2, 7), 1);
        Due.due("piece(2, 8)", x.piece(2, 8), 9);
        for (int piece : NO_PIECES) {
            Due.due("piece(" + piece + ", 0)", x.piece(piece, 0), NONE);
        }
    }

    /** 13 */
    private static void size() {
        FoldedTheatre x = with(0, 1234567, 0);
        x.add(1, 12345621, 0);
        for (int i = 0; i < 7; i++) {
            Due.due("size(0, " + i + ")", x.size(0, i), i + 1);
        }
        Due.due("size(1, 7)", x.size(1, 7), 1);
        for (int index : new int[] {7, 8, -1, Integer.MAX_VALUE, Integer.MIN_VALUE}) {
            Due.due("size(0, " + index + ")", x.size(0, index), NONE);
        }
        Due.due("size(1, 8)", x.size(1, 8), NONE);
        for (int piece : NO_PIECES) {
            Due.due("size(" + piece + ", 0)", x.size(piece, 0), NONE);
        }
    }

    /** 14 */
    private static void crease() {
        FoldedTheatre x = with(0, 1234, 12);
        x.add(1, 33333333, 20000001);
        for (int i = 0; i < 3; i++) {
            Due.due("crease(0, " + i + ")", x.crease(0, i), i);
        }
        Due.due("crease(1, 0)", x.crease(1, 0), 2);
        Due.due("crease(1, 7)", x.crease(1, 7), 1);
        for (int index : new int[] {3, 8, -1, Integer.MAX_VALUE, Integer.MIN_VALUE}) {
            Due.due("crease(0, " + index + ")", x.crease(0, index), NONE);
        }
        Due.due("crease(1, 8)", x.crease(1, 8), NONE);
        for (int piece : NO_PIECES) {
            Due.due("crease(" + piece + ", 0)", x.crease(piece, 0), NONE);
        }
    }

    private static void whyOf(int kind, int sizes, int creases, int due) {
        Due.due("why of " + sizes + " with " + creases, with(kind, sizes, creases).why(0), due);
    }

    /** 15 */
    private static void why() {
        whyOf(0, 323, 12, 0);
        whyOf(0, 323, 11, 5);
        whyOf(0, 323, 10, 4);
        whyOf(0, 99, 0, 4);
        whyOf(1, 7566, 1112, 1);
        whyOf(1, 7566, 1111, 1);
        whyOf(1, 7566, 1110, 4);
        whyOf(1, 6666, 1111, 2);
        whyOf(1, 6666, 1122, 2);
        whyOf(1, 6666, 2122, 0);
        whyOf(1, 4587, 1112, 3);
        whyOf(1, 4587, 1111, 2);
        whyOf(1, 8745, 1112, 0);
        whyOf(1, 7458, 1112, 3);
        whyOf(1, 5874, 2122, 3);
        whyOf(1, 4587, 2111, 0);
        whyOf(1, 3993, 1112, 0);
        whyOf(1, 3993, 1121, 5);
        whyOf(1, 444444, 121211, 0);
        whyOf(1, 444444, 111112, 2);
        Due.due("what does not fold for no other reason", whyFive());
        FoldedTheatre x = with(0, 323, 12);
        x.fold(0);
        Due.due("why of a folded piece", x.why(0), 0);
        for (int piece : NO_PIECES) {
            Due.due("why(" + piece + ")", x.why(piece), NONE);
        }
    }

    /** A corner where 5 stands in the way must be found among these: no angle is less than both beside it at first. */
    private static boolean whyFive() {
        boolean found = false;
        for (int sizes : new int[] {33225522, 22335522, 11335533, 44112255, 55224411}) {
            for (String creases : Model.Shapes.decided(8)) {
                Model.Piece piece = new Model.Piece(true, Integer.toString(sizes), creases, false);
                if (piece.sum() == 24 && Model.Shapes.why(piece) == 5) {
                    whyOf(1, sizes, Integer.parseInt(creases.replace('m', '1').replace('v', '2')), 5);
                    found = true;
                }
            }
        }
        return found;
    }

    /** 16 */
    private static void foldsAgain() {
        FoldedTheatre x = with(0, 323, 12);
        Due.due("foldsAgain(0)", x.foldsAgain(0), 1);
        x.mark(0, 1, 1);
        Due.due("foldsAgain(0)", x.foldsAgain(0), 0);
        x.mark(0, 1, 0);
        Due.due("foldsAgain(0) undecided", x.foldsAgain(0), NOTHING);
        x.add(1, 6666, 1112);
        Due.due("foldsAgain of a corner", x.foldsAgain(1), BAD);
        x.mark(1, 0, 0);
        Due.due("foldsAgain of an undecided corner", x.foldsAgain(1), BAD);
        x.add(0, 9999999, 111111);
        Due.due("it is 1 for several orders", x.foldsAgain(2), 1);
        for (int piece : NO_PIECES) {
            Due.due("foldsAgain(" + piece + ")", x.foldsAgain(piece), NONE);
        }
    }

    private static void stepsOf(int kind, int sizes, int creases, int first, int count) {
        FoldedTheatre x = with(kind, sizes, creases);
        Due.due("step of " + sizes + " with " + creases, x.step(0), first);
        Due.due("steps of " + sizes + " with " + creases, x.steps(0), count);
        Due.due("nothing is changed", x.piece(0, 1), Integer.toString(sizes).length());
    }

    /** 17 and 18 */
    private static void stepAndSteps() {
        stepsOf(0, 11, 1, 1, 1);
        stepsOf(0, 12, 1, 1, 1);
        stepsOf(0, 21, 1, 2, 1);
        stepsOf(0, 211, 11, 2, 2);
        stepsOf(0, 323, 12, 11, 1);
        stepsOf(0, 323, 21, 11, 1);
        stepsOf(0, 323, 11, NOTHING, 0);
        stepsOf(0, 1323, 122, 1, 1);
        stepsOf(0, 32323, 1112, 13, 1);
        stepsOf(0, 32323, 2111, 11, 1);
        stepsOf(0, 32323, 1212, 11, 2);
        stepsOf(0, 32323, 1221, 11, 2);
        stepsOf(0, 32323, 1111, NOTHING, 0);
        stepsOf(0, 9999999, 111111, 1, 6);
        stepsOf(0, 3223, 121, 11, 2);
        stepsOf(0, 3213, 221, 12, 2);
        stepsOf(1, 6666, 1112, 12, 1);
        stepsOf(1, 6666, 2111, 10, 1);
        stepsOf(1, 6666, 1111, NOTHING, 0);
        stepsOf(1, 4587, 2111, 10, 1);
        stepsOf(1, 4587, 1112, NOTHING, 0);
        stepsOf(1, 5874, 1112, 13, 1);
        stepsOf(1, 33333333, 22212111, 12, 3);
        stepsOf(1, 444444, 111111, NOTHING, 0);
        FoldedTheatre y = with(0, 323, 12);
        y.add(0, 9999999, 111111);
        y.add(1, 33333333, 22212111);
        int[] counts = {1, 6, 3};
        for (int piece = 0; piece < 3; piece++) {
            Due.due("steps(" + piece + ")", y.steps(piece), counts[piece]);
        }
        FoldedTheatre x = with(0, 323, 10);
        Due.due("step of an undecided strip", x.step(0), NOTHING);
        Due.due("steps of an undecided strip", x.steps(0), NOTHING);
        x.add(1, 6666, 1110);
        Due.due("step of an undecided corner", x.step(1), NOTHING);
        Due.due("steps of an undecided corner", x.steps(1), NOTHING);
        for (int piece : NO_PIECES) {
            Due.due("step(" + piece + ")", x.step(piece), NONE);
            Due.due("steps(" + piece + ")", x.steps(piece), NONE);
        }
    }

    /** 19 */
    private static void ways() {
        Due.due("ways of 2112", with(0, 2112, 0).ways(0), 6);
        Due.due("ways of 323", with(0, 323, 0).ways(0), 2);
        Due.due("ways of 323 with 10", with(0, 323, 10).ways(0), 1);
        Due.due("ways of 323 with 12", with(0, 323, 12).ways(0), 1);
        Due.due("ways of 323 with 11", with(0, 323, 11).ways(0), 0);
        Due.due("ways of 9999999", with(0, 9999999, 0).ways(0), 64);
        Due.due("ways of 6666", with(1, 6666, 0).ways(0), 8);
        Due.due("ways of 7566", with(1, 7566, 0).ways(0), 0);
        Due.due("ways of 4578", with(1, 4587, 0).ways(0), 4);
        FoldedTheatre x = with(1, 6666, 1110);
        Due.due("ways of 6666 with 1110", x.ways(0), 1);
        Due.due("nothing is decided by it", x.crease(0, 3), 0);
        for (int piece : NO_PIECES) {
            Due.due("ways(" + piece + ")", x.ways(piece), NONE);
        }
    }

    /** 20 */
    private static void fewest() {
        Due.due("fewest of 323 with 12", with(0, 323, 12).fewest(0), 0);
        Due.due("fewest of 9999999 with 111111", with(0, 9999999, 111111).fewest(0), 0);
        Due.due("fewest of 9999999 with 222222", with(0, 9999999, 222222).fewest(0), 0);
        Due.due("fewest of 323 with 11", with(0, 323, 11).fewest(0), 1);
        Due.due("fewest of 323 with 10", with(0, 323, 10).fewest(0), 0);
        Due.due("fewest of 323 undecided", with(0, 323, 0).fewest(0), 0);
        Due.due("fewest of 7566", with(1, 7566, 1112).fewest(0), NOTHING);
        Due.due("fewest of 7566 undecided", with(1, 7566, 0).fewest(0), NOTHING);
        Due.due("fewest of 6666 with 1122", with(1, 6666, 1122).fewest(0), 1);
        Due.due("fewest of 33333333 with 11111111", with(1, 33333333, 11111111).fewest(0), 3);
        Due.due("fewest of 33333333 with 01111111", with(1, 33333333, 1111111).fewest(0), 2);
        FoldedTheatre x = with(1, 33333333, 22222222);
        Due.due("fewest of 33333333 with 22222222", x.fewest(0), 3);
        Due.due("nothing is changed by it", x.piece(0, 4), 8);
        for (int piece : NO_PIECES) {
            Due.due("fewest(" + piece + ")", x.fewest(piece), NONE);
        }
    }

    /** 21 */
    private static void place() {
        FoldedTheatre x = with(0, 31413, 0);
        int[] places = {0, 3, 2, 6, 5, 8};
        for (int i = 0; i < 6; i++) {
            Due.due("place(0, " + i + ")", x.place(0, i), places[i]);
        }
        x.add(0, 1919191, 111111);
        Due.due("place(1, 6)", x.place(1, 6), -24);
        Due.due("place(1, 7)", x.place(1, 7), -23);
        Due.due("place(1, 8)", x.place(1, 8), NONE);
        Due.due("place(0, 6)", x.place(0, 6), NONE);
        Due.due("place(0, -1)", x.place(0, -1), NONE);
        x.add(1, 6666, 1112);
        Due.due("place of a corner", x.place(2, 0), BAD);
        Due.due("place of a corner", x.place(2, 99), BAD);
        for (int piece : NO_PIECES) {
            Due.due("place(" + piece + ", 0)", x.place(piece, 0), NONE);
        }
    }

    /** 22 */
    private static void layer() {
        FoldedTheatre x = with(0, 22, 2);
        Due.due("a valley is above", x.layer(0, 0) * 10 + x.layer(0, 1), 1);
        x.turn(0);
        Due.due("a mountain is below", x.layer(0, 0) * 10 + x.layer(0, 1), 10);
        x.add(0, 1111111, 121212);
        for (int i = 0; i < 7; i++) {
            Due.due("layer(1, " + i + ")", x.layer(1, i), 6 - i);
        }
        x.turn(1);
        for (int i = 0; i < 7; i++) {
            Due.due("layer(1, " + i + ")", x.layer(1, i), i);
        }
        x.add(0, 333, 22);
        Due.due("the first one of several orders", x.layer(2, 0) * 100 + x.layer(2, 1) * 10 + x.layer(2, 2), 21);
        x.add(0, 323, 11);
        Due.due("layer without an order", x.layer(3, 0), NOTHING);
        Due.due("layer of no panel without an order", x.layer(3, 3), NONE);
        x.mark(3, 0, 0);
        Due.due("layer of an undecided strip", x.layer(3, 2), NOTHING);
        Due.due("layer of no panel", x.layer(3, -1), NONE);
        Due.due("layer of no panel", x.layer(1, 7), NONE);
        x.add(1, 6666, 1112);
        Due.due("layer of a corner", x.layer(4, 0), BAD);
        Due.due("layer of a corner", x.layer(4, -7), BAD);
        for (int piece : NO_PIECES) {
            Due.due("layer(" + piece + ", 0)", x.layer(piece, 0), NONE);
        }
    }

    /** 23 */
    private static void orders() {
        Due.due("orders of 12", with(0, 12, 1).orders(0), 1);
        Due.due("orders of 323 with 12", with(0, 323, 12).orders(0), 1);
        Due.due("orders of 323 with 11", with(0, 323, 11).orders(0), 0);
        Due.due("orders of 333 with 22", with(0, 333, 22).orders(0), 2);
        Due.due("orders of 9999999 with 111111", with(0, 9999999, 111111).orders(0), 6);
        Due.due("orders of 31413 with 1221", with(0, 31413, 1221).orders(0), 6);
        Due.due("orders of 1231 with 122", with(0, 1231, 122).orders(0), 3);
        FoldedTheatre x = with(0, 1234, 102);
        Due.due("orders of an undecided strip", x.orders(0), NOTHING);
        x.add(1, 6666, 0);
        Due.due("orders of a corner", x.orders(1), BAD);
        for (int piece : NO_PIECES) {
            Due.due("orders(" + piece + ")", x.orders(piece), NONE);
        }
    }

    /** 24 */
    private static void thickest() {
        Due.due("thickest of 12", with(0, 12, 0).thickest(0), 2);
        Due.due("thickest of 31413", with(0, 31413, 0).thickest(0), 3);
        Due.due("thickest of 9999999", with(0, 9999999, 111111).thickest(0), 7);
        Due.due("thickest of 1919191", with(0, 1919191, 0).thickest(0), 3);
        FoldedTheatre x = with(0, 3132, 0);
        Due.due("thickest of 3132", x.thickest(0), 3);
        x.add(1, 6666, 0);
        Due.due("thickest of a corner", x.thickest(1), BAD);
        for (int piece : NO_PIECES) {
            Due.due("thickest(" + piece + ")", x.thickest(piece), NONE);
        }
    }

    /** 25 */
    private static void reflected() {
        Due.due("reflected of 6666", with(1, 6666, 0).reflected(0), 0);
        Due.due("reflected of 7566", with(1, 7566, 0).reflected(0), 2);
        Due.due("reflected of 5766", with(1, 5766, 0).reflected(0), 22);
        Due.due("reflected of 939111", with(1, 939111, 0).reflected(0), 14);
        Due.due("reflected of 41414145", with(1, 41414145, 0).reflected(0), 8);
        FoldedTheatre x = with(1, 15151515, 11111112);
        Due.due("reflected of 15151515", x.reflected(0), 8);
        x.add(0, 6666, 0);
        Due.due("reflected of a strip", x.reflected(1), BAD);
        for (int piece : NO_PIECES) {
            Due.due("reflected(" + piece + ")", x.reflected(piece), NONE);
        }
    }

    /** 26 */
    private static void append() {
        FoldedTheatre x = new FoldedTheatre();
        Due.due("append(31)", x.append(31), BAD);
        Due.due("append(127)", x.append(127), BAD);
        Due.due("append(-1)", x.append(-1), BAD);
        Due.due("append(371)", x.append(371), BAD);
        Due.due("append(32)", x.append(32), 1);
        Due.due("append(126)", x.append(126), 2);
        for (int i = 3; i <= 80; i++) {
            Due.due("append", x.append(';'), i);
        }
        Due.due("append to 80 characters", x.append(';'), BAD);
        Due.due("account(11)", x.account(11), 80);
        Due.due("it is no change", x.account(12), 0);
        x.add(0, 12, 1);
        x.undo();
        Due.due("the text is not in undo", x.account(11), 80);
        Due.due("read of it", x.read(), -2000);
        Due.due("append(48)", x.append(48), 1);
    }

    private static void fault(String text, int position) {
        FoldedTheatre x = full();
        String old = Due.state(x);
        Due.due("read of " + text, Due.read(x, text), -2000 - position);
        Due.same("read of " + text, Due.state(x), old);
        Due.due("the text is empty", x.account(11), 0);
        Due.due("the changes", x.account(12), 8);
        Due.due("nothing was refused", x.refusal(0), NOTHING);
    }

    private static void readFaults() {
        String[] early = {"", "s", "s1", "s12", "s12345678", "s12:", "s1:m;", "c", "c6666:", "m", "m0", "m0.", "m0.0",
            "m0.0=", "t", "f", "u", "x", "t0;", "s22:o;m", "t0;t0;t0;t0;f", "c33333333"};
        for (String text : early) {
            fault(text, text.length());
        }
        fault("a", 0);
        fault(";", 0);
        fault(" t0", 0);
        fault("S12:m", 0);
        fault("s0", 1);
        fault("s20", 2);
        fault("s:m", 1);
        fault("s123456789:m", 9);
        fault("s12;m", 3);
        fault("s12m", 3);
        fault("s12:1", 4);
        fault("s12:x", 4);
        fault("s12:;", 4);
        fault("s12:mmmmmmmmm", 12);
        fault("s12:mm.", 6);
        fault("c6666:mmmv,", 10);
        fault("mm", 1);
        fault("m0:", 2);
        fault("m10", 2);
        fault("m0.x", 3);
        fault("m0.00", 4);
        fault("m0.0=1", 5);
        fault("m0.0=mm", 6);
        fault("t00", 2);
        fault("t;", 1);
        fault("t0;;", 3);
        fault("t0 ;", 2);
        fault("t0;q", 3);
        fault("x0;f0;s20:m", 8);
        fault("x9~", 2);
    }

    private static void readErrors() {
        String[] bad = {"s1:m", "s12345678:mmmmmmm", "s12:mm", "s12:om", "s123:m", "s123:mmm", "c6665:mmmm",
            "c6666:mmm", "c6666:mmmmm", "c6666:ommmv", "c66:mm", "m2.0=m", "m0.2=m", "m0.9=o", "t9", "f2", "u9", "x2",
            "s12:m;x0;x0;x0;x0", "t0;t2", "s22:m;s22:mm"};
        for (String text : bad) {
            FoldedTheatre x = with(0, 323, 12);
            x.add(1, 6666, 1112);
            String old = Due.state(x);
            Due.due("read of " + text, Due.read(x, text), BAD);
            Due.same("read of " + text, Due.state(x), old);
            Due.due("the text is empty", x.account(11), 0);
            Due.due("nothing was refused", x.refusal(0), NOTHING);
            Due.due("the changes", x.account(12), 2);
        }
    }

    private static void readRefused(String text, int reason, int detail, int command) {
        FoldedTheatre x = with(0, 323, 12);
        x.add(1, 6666, 1112);
        x.add(0, 59, 0);
        x.add(0, 323, 11);
        x.stage(9);
        String old = Due.state(x);
        Due.due("read of " + text, Due.read(x, text), REFUSED);
        Due.due("read of " + text + ", the reason", x.refusal(0), reason);
        Due.due("read of " + text + ", the detail", x.refusal(1), detail);
        Due.due("read of " + text + ", the command", x.refusal(2), command);
        Due.same("read of " + text, Due.state(x), old);
        Due.due("the text is empty", x.account(11), 0);
        Due.due("the changes", x.account(12), 5);
        Due.due("undo", x.undo(), 4);
        Due.due("undo of stage, not of read", x.account(4), 30);
        refused(x, "another call", x.unfold(1), 2, 1);
    }

    /** 27 */
    private static void read() {
        readFaults();
        readErrors();
        readRefused("u0", 2, 0, 0);
        readRefused("f0;m0.0=v", 2, 0, 1);
        readRefused("f0;t0", 2, 0, 1);
        readRefused("x0;f1", 4, 0, 1);
        readRefused("t3;m3.0=o;m3.0=v;f3", 5, 5, 3);
        readRefused("t1;f1;f0", 7, 1, 2);
        readRefused("s11:m;s11:m;s11:m;s11:m;s11:m", 1, 8, 4);
        readRefused("s11:m;s11:m;s11:m;s11:m;s111:m", 1, 8, 4);
        FoldedTheatre x = new FoldedTheatre();
        Due.due("read", Due.read(x, "s123:mv;c395511:ovmmvo;t0;m1.0=m;f0;u0;x0"), 7);
        Due.due("the pieces", x.account(0), 1);
        Due.due("the creases", x.crease(0, 0) * 100 + x.crease(0, 1) * 10 + x.crease(0, 5), 120);
        Due.due("size(0, 1)", x.size(0, 1), 9);
        Due.due("how often something was folded", x.account(10), 1);
        Due.due("it is one change", x.account(12), 1);
        Due.due("undo of it", x.undo(), 0);
        Due.due("the pieces", x.account(0), 0);
        Due.due("how often something was folded", x.account(10), 0);
        x.add(0, 12, 1);
        StringBuilder most = new StringBuilder("t0");
        while (most.length() < 80) {
            most.append(";t0");
        }
        Due.due("read of 80 characters", Due.read(x, most.toString()), 27);
        Due.due("turned 27 times", x.crease(0, 0), 2);
        Due.due("read of nothing", x.read(), -2000);
        Due.due("what is wrong ahead of what is refused", Due.read(full(), "s22:mm"), BAD);
    }

    /** 28 */
    private static void refusal() {
        FoldedTheatre x = with(0, 323, 0);
        for (int what = 0; what <= 2; what++) {
            Due.due("refusal(" + what + ")", x.refusal(what), NOTHING);
        }
        Due.due("refusal(3)", x.refusal(3), BAD);
        Due.due("refusal(-1)", x.refusal(-1), BAD);
        refused(x, "fold(0)", x.fold(0), 4, 0);
        Due.due("mark(0, 5, 1)", x.mark(0, 5, 1), NONE);
        Due.due("stage(0)", x.stage(0), BAD);
        Due.due("another error leaves it", x.refusal(0), 4);
        Due.due("read", Due.read(x, "t0;u0"), REFUSED);
        Due.due("refusal(0)", x.refusal(0), 2);
        Due.due("refusal(2)", x.refusal(2), 1);
        Due.due("read", Due.read(x, "t0;t5"), BAD);
        Due.due("refusal(2)", x.refusal(2), 1);
        x.save();
        x.undo();
        x.restore();
        Due.due("reasons are in neither undo nor snapshot", x.refusal(0), 2);
        refused(x, "unfold(0)", x.unfold(0), 2, 0);
        Due.due("refusal(3)", x.refusal(3), BAD);
    }

    /** 29 */
    private static void account() {
        FoldedTheatre x = with(0, 323, 12);
        x.add(1, 6666, 1112);
        x.add(0, 1234567, 120);
        x.add(1, 33333333, 22200001);
        x.fold(0);
        x.fold(1);
        x.unfold(1);
        x.stage(50);
        x.append('t');
        int[] due = {4, 2, 2, 1, 50, 46, 10, 6, 6, 8, 2, 1, 8};
        for (int what = 0; what <= 12; what++) {
            Due.due("account(" + what + ")", x.account(what), due[what]);
        }
        FoldedTheatre y = with(0, 12, 1);
        y.add(0, 34, 2);
        y.add(1, 6666, 0);
        Due.due("the strips", y.account(1), 2);
        Due.due("the corners", y.account(2), 1);
        Due.due("account(13)", x.account(13), BAD);
        Due.due("account(-1)", x.account(-1), BAD);
        x.fold(1);
        Due.due("account(3)", x.account(3), 2);
        Due.due("account(10)", x.account(10), 3);
        x.undo();
        Due.due("account(10) as undo leaves it", x.account(10), 2);
        x.save();
        x.fold(1);
        x.drop(1);
        Due.due("account(10) is not less for a piece that is gone", x.account(10), 3);
        x.restore();
        Due.due("account(10) as restore leaves it", x.account(10), 2);
        Due.due("account(12)", x.account(12), 0);
        Due.due("account(11)", x.account(11), 1);
    }

    /** 30 */
    private static void share() {
        FoldedTheatre x = with(0, 1111, 100);
        Due.due("share of 1 of 3", x.share(), Float.floatToIntBits((float) 1 / (float) 3));
        x.mark(0, 0, 0);
        Due.due("share of 0 of 3", x.share(), 0);
        x.drop(0);
        Due.due("share without pieces", x.share(), NOTHING);
        FoldedTheatre y = new FoldedTheatre();
        for (int i = 1; i <= 8; i++) {
            y.add(1, 33333333, 0);
        }
        for (int decided = 1; decided <= 64; decided++) {
            y.mark((decided - 1) / 8, (decided - 1) % 8, 1 + decided % 2);
            Due.due("share of " + decided + " of 64", y.share(), Float.floatToIntBits((float) decided / (float) 64));
        }
        for (int all = 1; all <= 48; all++) {
            shares(all);
        }
    }

    /** Strips with so many creases together, of which one more is decided each time. */
    private static void shares(int all) {
        FoldedTheatre x = new FoldedTheatre();
        for (int left = all; left > 0; left -= 6) {
            x.add(0, Integer.parseInt("1111111".substring(0, Math.min(left, 6) + 1)), 0);
        }
        for (int decided = 1; decided <= all; decided++) {
            Due.due("mark", x.mark((decided - 1) / 6, (decided - 1) % 6, 2), 0);
            int due = Float.floatToIntBits((float) decided / (float) all);
            Due.due("share of " + decided + " of " + all, x.share(), due);
        }
    }

    /** 31 */
    private static void undo() {
        FoldedTheatre x = new FoldedTheatre();
        String[] states = new String[13];
        states[0] = Due.state(x);
        x.add(0, 1234, 120);
        states[1] = Due.state(x);
        x.add(0, 323, 12);
        states[2] = Due.state(x);
        x.stage(40);
        states[3] = Due.state(x);
        x.mark(0, 2, 1);
        states[4] = Due.state(x);
        x.turn(0);
        states[5] = Due.state(x);
        x.cut(0, 1);
        states[6] = Due.state(x);
        x.join(2, 0, 1);
        states[7] = Due.state(x);
        x.fold(0);
        states[8] = Due.state(x);
        x.unfold(0);
        states[9] = Due.state(x);
        Due.read(x, "c395511:mmmmmm;s11:m;f0");
        states[10] = Due.state(x);
        x.rotate(2, 1);
        states[11] = Due.state(x);
        x.drop(1);
        states[12] = Due.state(x);
        x.drop(9);
        x.unfold(1);
        x.append('q');
        for (int left = 7; left >= 0; left--) {
            Due.due("undo()", x.undo(), left);
            Due.same("undo with " + left + " left", Due.state(x), states[left + 4]);
            Due.due("account(12)", x.account(12), left);
        }
        Due.due("only 8 are undone", x.undo(), NOTHING);
        Due.same("only 8 are undone", Due.state(x), states[4]);
        Due.due("stage(40), by which nothing changes", x.stage(40), 40);
        Due.due("undo of it", x.undo(), 0);
        Due.due("the text stays", x.account(11), 1);
        x.add(0, 22, 1);
        x.add(0, 33, 1);
        Due.due("undo()", x.undo(), 1);
        x.add(0, 44, 1);
        Due.due("a change after undo", x.account(12), 2);
        Due.due("undo()", x.undo(), 1);
        Due.due("undo()", x.undo(), 0);
        Due.same("undo of all", Due.state(x), states[4]);
    }

    /** 32 and 33 */
    private static void saveAndRestore() {
        FoldedTheatre x = new FoldedTheatre();
        Due.due("restore()", x.restore(), NOTHING);
        Due.due("save()", x.save(), 0);
        x.add(0, 323, 12);
        Due.due("restore()", x.restore(), 0);
        x.add(0, 323, 12);
        x.add(1, 6666, 1112);
        x.fold(1);
        x.stage(20);
        x.append('t');
        String saved = Due.state(x);
        Due.due("save()", x.save(), 2);
        Due.due("save is no change", x.account(12), 4);
        x.unfold(1);
        x.turn(1);
        x.drop(0);
        x.stage(99);
        x.append('0');
        x.fold(5);
        for (int i = 0; i < 2; i++) {
            Due.due("restore()", x.restore(), 2);
            Due.same("restore", Due.state(x), saved);
            Due.due("nothing can be undone", x.undo(), NOTHING);
            Due.due("account(12)", x.account(12), 0);
            Due.due("the text stays", x.account(11), 2);
            x.mark(0, 0, 2);
            x.drop(1);
        }
        Due.due("undo()", x.undo(), 1);
        Due.due("save in place of the earlier one", x.save(), 2);
        x.mark(0, 0, 0);
        x.undo();
        x.undo();
        Due.due("restore()", x.restore(), 2);
        Due.due("crease(0, 0)", x.crease(0, 0), 2);
    }

    /** What is refused or wrong leaves the state. */
    private static void errorsLeaveTheState() {
        FoldedTheatre x = with(0, 323, 12);
        x.add(1, 6666, 1112);
        x.add(0, 323, 11);
        x.fold(0);
        String old = Due.state(x);
        int[] answers = {x.stage(3), x.stage(0), x.add(0, 1, 1), x.mark(0, 0, 2), x.mark(1, 0, 3), x.turn(0),
            x.rotate(2, 0), x.join(0, 2, 1), x.join(1, 2, 1), x.cut(0, 0), x.cut(2, 0), x.fold(0), x.fold(2),
            x.unfold(1), x.drop(3)};
        for (int i = 0; i < answers.length; i++) {
            Due.due("error " + i, answers[i] < -1000);
        }
        Due.same("errors", Due.state(x), old);
        Due.due("errors are no changes", x.account(12), 4);
    }

    public static void main(String[] args) {
        Due.test("Promise 1: A new object", PromisesTest::newObject);
        Due.test("Promise 2: stage", PromisesTest::stage);
        Due.test("Promise 3: add", PromisesTest::add);
        Due.test("Promise 4: mark", PromisesTest::mark);
        Due.test("Promise 5: turn", PromisesTest::turn);
        Due.test("Promise 6: rotate", PromisesTest::rotate);
        Due.test("Promise 7: join", PromisesTest::join);
        Due.test("Promise 8: cut", PromisesTest::cut);
        Due.test("Promise 9: fold", PromisesTest::fold);
        Due.test("Promise 10: unfold", PromisesTest::unfold);
        Due.test("Promise 11: drop", PromisesTest::drop);
        Due.test("Promise 12: piece", PromisesTest::piece);
        Due.test("Promise 13: size", PromisesTest::size);
        Due.test("Promise 14: crease", PromisesTest::crease);
        Due.test("Promise 15: why", PromisesTest::why);
        Due.test("Promise 16: foldsAgain", PromisesTest::foldsAgain);
        Due.test("Promises 17 and 18: step and steps", PromisesTest::stepAndSteps);
        Due.test("Promise 19: ways", PromisesTest::ways);
        Due.test("Promise 20: fewest", PromisesTest::fewest);
        Due.test("Promise 21: place", PromisesTest::place);
        Due.test("Promise 22: layer", PromisesTest::layer);
        Due.test("Promise 23: orders", PromisesTest::orders);
        Due.test("Promise 24: thickest", PromisesTest::thickest);
        Due.test("Promise 25: reflected", PromisesTest::reflected);
        Due.test("Promise 26: append", PromisesTest::append);
        Due.test("Promise 27: read", PromisesTest::read);
        Due.test("Promise 28: refusal", PromisesTest::refusal);
        Due.test("Promise 29: account", PromisesTest::account);
        Due.test("Promise 30: share", PromisesTest::share);
        Due.test("Promise 31: undo", PromisesTest::undo);
        Due.test("Promises 32 and 33: save and restore", PromisesTest::saveAndRestore);
        Due.test("What is refused or wrong leaves the state", PromisesTest::errorsLeaveTheState);
        Due.finish();
    }
}
