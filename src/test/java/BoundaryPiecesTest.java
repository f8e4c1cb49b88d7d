/** "Terms", Pieces, Strips, Corners and Stage: each sentence that names a boundary, at it and just beyond it. */
public final class BoundaryPiecesTest extends Theatres {
    private BoundaryPiecesTest() {
    }

    private static void added(int kind, int sizes, int creases) {
        FoldedTheatre x = with(kind, sizes, creases);
        Due.due("the pieces then", x.account(0), 1);
    }

    private static void bad(int kind, int sizes, int creases) {
        FoldedTheatre x = new FoldedTheatre();
        Due.due("add(" + kind + ", " + sizes + ", " + creases + ")", x.add(kind, sizes, creases), BAD);
        Due.due("the pieces then", x.account(0), 0);
        Due.due("the changes then", x.account(12), 0);
    }

    private static void sizesOf(FoldedTheatre x, int piece, int... sizes) {
        Due.due("the sizes of piece " + piece, x.piece(piece, 1), sizes.length);
        for (int i = 0; i < sizes.length; i++) {
            Due.due("size(" + piece + ", " + i + ")", x.size(piece, i), sizes[i]);
        }
    }

    private static void creasesOf(FoldedTheatre x, int piece, int... creases) {
        Due.due("the creases of piece " + piece, x.piece(piece, 2), creases.length);
        for (int i = 0; i < creases.length; i++) {
            Due.due("crease(" + piece + ", " + i + ")", x.crease(piece, i), creases[i]);
        }
    }

    // ---- Pieces

    private static void atMostEightByAdd() {
        FoldedTheatre x = strips(7);
        Due.due("add of an eighth", x.add(1, 6666, 0), 7);
        refused(x, "add of a ninth", x.add(1, 6666, 0), 1, 8);
        Due.due("the pieces", x.account(0), 8);
        Due.due("drop(7)", x.drop(7), 7);
        Due.due("add of an eighth again", x.add(0, 12, 0), 7);
    }

    private static void atMostEightByCut() {
        FoldedTheatre x = strips(6);
        x.add(0, 1111, 0);
        x.mark(6, 1, 1);
        Due.due("cut to an eighth", x.cut(6, 1), 7);
        FoldedTheatre y = strips(7);
        y.add(0, 1111, 0);
        refused(y, "cut to a ninth", y.cut(7, 1), 1, 8);
        Due.due("the pieces", y.account(0), 8);
        sizesOf(y, 7, 1, 1, 1, 1);
    }

    private static void atMostEightByText() {
        FoldedTheatre x = strips(7);
        Due.due("read of an eighth", Due.read(x, "s11:m"), 1);
        Due.due("read of a ninth", Due.read(x, "s11:m"), REFUSED);
        Due.due("the reason", x.refusal(0), 1);
        Due.due("the detail", x.refusal(1), 8);
        Due.due("the pieces", x.account(0), 8);
    }

    private static void numberedFromZero() {
        FoldedTheatre x = new FoldedTheatre();
        Due.due("piece(0, 0) without pieces", x.piece(0, 0), NONE);
        for (int i = 0; i < 8; i++) {
            Due.due("add", x.add(i % 2, i % 2 == 0 ? 12 : 6666, 0), i);
            Due.due("piece(" + i + ", 0)", x.piece(i, 0), i % 2);
            Due.due("piece(" + (i + 1) + ", 0)", x.piece(i + 1, 0), NONE);
            Due.due("piece(-1, 0)", x.piece(-1, 0), NONE);
        }
    }

    private static FoldedTheatre fourStrips() {
        FoldedTheatre x = strip(12, 1);
        x.add(0, 34, 2);
        x.add(0, 56, 0);
        x.add(0, 78, 1);
        return x;
    }

    private static void laterNumbersDecrease() {
        FoldedTheatre first = fourStrips();
        Due.due("drop of the first one", first.drop(0), 3);
        sizesOf(first, 0, 3, 4);
        sizesOf(first, 1, 5, 6);
        sizesOf(first, 2, 7, 8);
        Due.due("size(3, 0)", first.size(3, 0), NONE);
        FoldedTheatre middle = fourStrips();
        Due.due("drop of one in the middle", middle.drop(2), 3);
        sizesOf(middle, 0, 1, 2);
        sizesOf(middle, 1, 3, 4);
        sizesOf(middle, 2, 7, 8);
        Due.due("size(3, 0)", middle.size(3, 0), NONE);
        FoldedTheatre last = fourStrips();
        Due.due("drop of the last one", last.drop(3), 3);
        sizesOf(last, 0, 1, 2);
        sizesOf(last, 1, 3, 4);
        sizesOf(last, 2, 5, 6);
        Due.due("size(3, 0)", last.size(3, 0), NONE);
    }

    private static void stripOrCorner() {
        bad(-1, 6666, 0);
        added(0, 6666, 0);
        added(1, 6666, 0);
        bad(2, 6666, 0);
        bad(Integer.MAX_VALUE, 6666, 0);
        bad(Integer.MIN_VALUE, 6666, 0);
    }

    private static void sizesFromOneToNine() {
        added(0, 11, 0);
        added(0, 99, 0);
        added(0, 9119, 0);
        bad(0, 10, 0);
        bad(0, 101, 0);
        bad(0, 110, 0);
        bad(0, 1111110, 0);
        bad(0, -11, 0);
        added(1, 9393, 0);
        added(1, 199113, 0);
        bad(1, 9960, 0);
        bad(1, 9906, 0);
        bad(1, 906333, 0);
        bad(1, -9393, 0);
    }

    private static void creaseIsOfThreeKinds() {
        added(0, 12, 0);
        added(0, 12, 1);
        added(0, 12, 2);
        bad(0, 12, 3);
        bad(0, 12, 9);
        bad(0, 12, -1);
        bad(0, 1234, 300);
        bad(0, 1234, 103);
        bad(1, 6666, 3000);
        FoldedTheatre x = strip(12, 1);
        x.add(0, 34, 1);
        Due.due("mark(0, 0, -1)", x.mark(0, 0, -1), BAD);
        Due.due("mark(0, 0, 0)", x.mark(0, 0, 0), 1);
        Due.due("mark(0, 0, 2)", x.mark(0, 0, 2), 0);
        Due.due("mark(0, 0, 3)", x.mark(0, 0, 3), BAD);
        Due.due("join(0, 1, -1)", x.join(0, 1, -1), BAD);
        Due.due("join(0, 1, 3)", x.join(0, 1, 3), BAD);
        Due.due("join(0, 1, 2)", x.join(0, 1, 2), 4);
        creasesOf(x, 0, 2, 2, 1);
    }

    private static void firstDigitFirst() {
        sizesOf(strip(1234567, 0), 0, 1, 2, 3, 4, 5, 6, 7);
        creasesOf(strip(1234567, 121200), 0, 1, 2, 1, 2, 0, 0);
        FoldedTheatre x = corner(12345621, 12000001);
        sizesOf(x, 0, 1, 2, 3, 4, 5, 6, 2, 1);
        creasesOf(x, 0, 1, 2, 0, 0, 0, 0, 0, 1);
        Due.due("rotate(0, 1) tells its sizes", x.rotate(0, 1), 23456211);
    }

    private static void creasesCanBeginWithZero() {
        creasesOf(strip(1234, 0), 0, 0, 0, 0);
        creasesOf(strip(1234, 2), 0, 0, 0, 2);
        creasesOf(strip(1234, 12), 0, 0, 1, 2);
        creasesOf(strip(1234, 100), 0, 1, 0, 0);
        creasesOf(corner(33333333, 0), 0, 0, 0, 0, 0, 0, 0, 0, 0);
        creasesOf(corner(33333333, 1), 0, 0, 0, 0, 0, 0, 0, 0, 1);
        creasesOf(corner(33333333, 2000000), 0, 0, 2, 0, 0, 0, 0, 0, 0);
    }

    // ---- Strips

    private static void twoToSevenPanels() {
        bad(0, 0, 0);
        bad(0, 1, 0);
        bad(0, 9, 0);
        added(0, 11, 0);
        added(0, 1111111, 0);
        bad(0, 11111111, 0);
        bad(0, 33333333, 0);
        bad(0, Integer.MAX_VALUE, 0);
    }

    private static void oneCreaseLessThanPanels() {
        int sizes = 1;
        for (int panels = 2; panels <= 7; panels++) {
            sizes = sizes * 10 + 1;
            FoldedTheatre x = strip(sizes, 0);
            Due.due("the panels of " + sizes, x.piece(0, 1), panels);
            Due.due("the creases of " + sizes, x.piece(0, 2), panels - 1);
            Due.due("the last crease of " + sizes, x.crease(0, panels - 2), 0);
            Due.due("no further crease of " + sizes, x.crease(0, panels - 1), NONE);
        }
    }

    private static void creaseLiesBetweenPanels() {
        for (int crease = 1; crease <= 4; crease++) {
            FoldedTheatre x = strip(1234567, 0);
            Due.due("cut(0, " + crease + ")", x.cut(0, crease), 1);
            Due.due("the last panel at the left", x.size(0, crease), crease + 1);
            Due.due("the first panel at the right", x.size(1, 0), crease + 2);
            Due.due("the panels at the left", x.piece(0, 1), crease + 1);
            Due.due("the panels at the right", x.piece(1, 1), 6 - crease);
        }
    }

    private static void placesOf(int sizes, int... places) {
        FoldedTheatre x = strip(sizes, 0);
        for (int i = 0; i < places.length; i++) {
            Due.due("place of panel " + i + " of " + sizes, x.place(0, i), places[i]);
        }
        Due.due("no place beyond the end of " + sizes, x.place(0, places.length), NONE);
    }

    private static void panelsGoToAndFro() {
        placesOf(12, 0, 1, -1);
        placesOf(21, 0, 2, 1);
        placesOf(99, 0, 9, 0);
        placesOf(1919191, 0, 1, -8, -7, -16, -15, -24, -23);
        placesOf(9191919, 0, 9, 8, 17, 16, 25, 24, 33);
    }

    private static void layersOf(int sizes, int creases, int... layers) {
        FoldedTheatre x = strip(sizes, creases);
        for (int i = 0; i < layers.length; i++) {
            Due.due("layer of panel " + i + " of " + sizes + " with " + creases, x.layer(0, i), layers[i]);
        }
    }

    private static void valleysAboveMountainsBelow() {
        layersOf(11, 2, 0, 1);
        layersOf(11, 1, 1, 0);
        layersOf(111, 21, 0, 1, 2);
        layersOf(111, 12, 2, 1, 0);
        layersOf(111, 22, 0, 2, 1);
        layersOf(111, 11, 1, 0, 2);
        layersOf(1111, 212, 0, 1, 2, 3);
        layersOf(1111, 121, 3, 2, 1, 0);
    }

    // ---- Corners

    private static void fourSixOrEightCreases() {
        bad(1, 0, 0);
        bad(1, 9, 0);
        bad(1, 99, 0);
        bad(1, 888, 0);
        added(1, 6666, 0);
        bad(1, 55554, 0);
        added(1, 444444, 0);
        bad(1, 3333336, 0);
        added(1, 33333333, 0);
        bad(1, 333333321, 0);
        bad(1, 1333333311, 0);
    }

    private static void asManyAnglesAsCreases() {
        int[] corners = {6666, 444444, 33333333};
        for (int i = 0; i < 3; i++) {
            FoldedTheatre x = corner(corners[i], 0);
            int count = 4 + 2 * i;
            Due.due("the angles of " + corners[i], x.piece(0, 1), count);
            Due.due("the creases of " + corners[i], x.piece(0, 2), count);
            Due.due("the last crease", x.crease(0, count - 1), 0);
            Due.due("no further crease", x.crease(0, count), NONE);
            Due.due("no further angle", x.size(0, count), NONE);
        }
    }

    private static void anglesAreATurnTogether() {
        bad(1, 6665, 0);
        added(1, 6666, 0);
        bad(1, 6667, 0);
        bad(1, 444443, 0);
        added(1, 444444, 0);
        bad(1, 444445, 0);
        bad(1, 33333332, 0);
        added(1, 33333333, 0);
        bad(1, 33333334, 0);
        bad(1, 1111, 0);
        bad(1, 9999, 0);
    }

    /** The angle 0 is less than both beside it, as is its neighbour around the point in the other corner. */
    private static void lastAngleLiesBeforeCreaseZero() {
        Due.due("why, if the creases 3 and 0 are of one kind", corner(5874, 2122).why(0), 3);
        Due.due("why, if the creases 3 and 0 are not", corner(5874, 1112).why(0), 0);
        Due.due("why, if the creases 2 and 3 are of one kind", corner(5874, 1222).why(0), 0);
        Due.due("step around the point", corner(5874, 1112).step(0), 13);
        Due.due("why, if the creases 0 and 1 are of one kind", corner(4587, 1112).why(0), 3);
        Due.due("why, if the creases 0 and 1 are not", corner(4587, 2111).why(0), 0);
    }

    // ---- Stage

    private static void widthFromOneToNinetyNine() {
        FoldedTheatre x = new FoldedTheatre();
        Due.due("the width at first", x.account(4), 30);
        Due.due("stage(0)", x.stage(0), BAD);
        Due.due("stage(100)", x.stage(100), BAD);
        Due.due("the width still", x.account(4), 30);
        Due.due("stage(1)", x.stage(1), 30);
        Due.due("the width", x.account(4), 1);
        Due.due("stage(99)", x.stage(99), 1);
        Due.due("the width", x.account(4), 99);
    }

    private static void foldedPieceStandsOnTheStage() {
        FoldedTheatre x = strip(323, 12);
        Due.due("free before", x.account(5), 30);
        Due.due("fold(0)", x.fold(0), 4);
        Due.due("free then", x.account(5), 26);
        Due.due("unfold(0)", x.unfold(0), 30);
        Due.due("free again", x.account(5), 30);
        x.fold(0);
        Due.due("drop(0)", x.drop(0), 0);
        Due.due("free without it", x.account(5), 30);
    }

    private static void widthOf(int kind, int sizes, int width) {
        FoldedTheatre x = with(kind, sizes, 0);
        Due.due("the width of " + sizes, x.piece(0, 8), width);
    }

    private static void widthFromLeftmostToRightmost() {
        widthOf(0, 11, 1);
        widthOf(0, 12, 2);
        widthOf(0, 21, 2);
        widthOf(0, 212, 3);
        widthOf(0, 123, 3);
        widthOf(0, 321, 3);
        widthOf(0, 1919191, 25);
        widthOf(0, 9191919, 33);
        widthOf(0, 1991, 9);
    }

    private static void widthOfACorner() {
        widthOf(1, 6666, 6);
        widthOf(1, 7656, 7);
        widthOf(1, 6567, 7);
        widthOf(1, 93333111, 9);
        widthOf(1, 11133339, 9);
        widthOf(1, 33333333, 3);
    }

    private static void togetherAtMostTheStage() {
        FoldedTheatre x = strip(323, 12);
        x.add(1, 6666, 1112);
        x.fold(0);
        Due.due("stage(9)", x.stage(9), 30);
        refused(x, "fold with 5 of 6 free", x.fold(1), 7, 1);
        Due.due("stage(10)", x.stage(10), 9);
        Due.due("fold with 6 of 6 free", x.fold(1), 6);
        Due.due("nothing is free", x.account(5), 0);
        refused(x, "stage(9) with 10 taken", x.stage(9), 7, 1);
        Due.due("stage(10) with 10 taken", x.stage(10), 10);
    }

    public static void main(String[] args) {
        Due.test("Pieces: at most 8 pieces, by add", BoundaryPiecesTest::atMostEightByAdd);
        Due.test("Pieces: at most 8 pieces, by cut", BoundaryPiecesTest::atMostEightByCut);
        Due.test("Pieces: at most 8 pieces, by a text", BoundaryPiecesTest::atMostEightByText);
        Due.test("Pieces: numbered from 0", BoundaryPiecesTest::numberedFromZero);
        Due.test("Pieces: if one is dropped, later numbers decrease by 1", BoundaryPiecesTest::laterNumbersDecrease);
        Due.test("Pieces: a piece is a strip or a corner", BoundaryPiecesTest::stripOrCorner);
        Due.test("Pieces: sizes, each from 1 to 9", BoundaryPiecesTest::sizesFromOneToNine);
        Due.test("Pieces: a crease is 0, 1 or 2", BoundaryPiecesTest::creaseIsOfThreeKinds);
        Due.test("Pieces: digits, the first one first", BoundaryPiecesTest::firstDigitFirst);
        Due.test("Pieces: creases can begin with 0", BoundaryPiecesTest::creasesCanBeginWithZero);
        Due.test("Strips: 2 to 7 panels", BoundaryPiecesTest::twoToSevenPanels);
        Due.test("Strips: one crease less than panels", BoundaryPiecesTest::oneCreaseLessThanPanels);
        Due.test("Strips: crease k between panels k and k plus 1", BoundaryPiecesTest::creaseLiesBetweenPanels);
        Due.test("Strips: from the place 0 to the right, then the other way", BoundaryPiecesTest::panelsGoToAndFro);
        Due.test("Strips: above or below the panel before", BoundaryPiecesTest::valleysAboveMountainsBelow);
        Due.test("Corners: 4, 6 or 8 creases", BoundaryPiecesTest::fourSixOrEightCreases);
        Due.test("Corners: as many angles as creases", BoundaryPiecesTest::asManyAnglesAsCreases);
        Due.test("Corners: the angles are together 24", BoundaryPiecesTest::anglesAreATurnTogether);
        Due.test("Corners: the last angle lies between the last crease and the crease 0",
            BoundaryPiecesTest::lastAngleLiesBeforeCreaseZero);
        Due.test("Stage: its width is from 1 to 99, at first 30", BoundaryPiecesTest::widthFromOneToNinetyNine);
        Due.test("Stage: a folded piece stands on it", BoundaryPiecesTest::foldedPieceStandsOnTheStage);
        Due.test("Stage: a strip's width, leftmost to rightmost", BoundaryPiecesTest::widthFromLeftmostToRightmost);
        Due.test("Stage: a corner's width, its greatest angle", BoundaryPiecesTest::widthOfACorner);
        Due.test("Stage: widths together at most that of the stage", BoundaryPiecesTest::togetherAtMostTheStage);
        Due.finish();
    }
}
