/** "Terms", Layers, Reducing and What stands in the way: each boundary, at it and just beyond it. */
public final class BoundaryFoldingTest extends Theatres {
    private BoundaryFoldingTest() {
    }

    private static void ordersOf(int sizes, int creases, int orders, int... first) {
        FoldedTheatre x = strip(sizes, creases);
        String name = sizes + " with " + creases;
        Due.due("orders of " + name, x.orders(0), orders);
        Due.due("foldsAgain of " + name, x.foldsAgain(0), orders > 0 ? 1 : 0);
        for (int i = 0; i < first.length; i++) {
            Due.due("layer of panel " + i + " of " + name, x.layer(0, i), first[i]);
        }
    }

    private static void stepsOf(int kind, int sizes, int creases, int first, int count) {
        FoldedTheatre x = with(kind, sizes, creases);
        Due.due("step of " + sizes + " with " + creases, x.step(0), first);
        Due.due("steps of " + sizes + " with " + creases, x.steps(0), count);
    }

    private static void whyOf(int kind, int sizes, int creases, int due) {
        Due.due("why of " + sizes + " with " + creases, with(kind, sizes, creases).why(0), due);
    }

    private static void waysOf(int kind, int sizes, int creases, int ways) {
        Due.due("ways of " + sizes + " with " + creases, with(kind, sizes, creases).ways(0), ways);
    }

    // ---- Layers

    private static void eachLayerOnce() {
        for (int sizes = 11, panels = 2; panels <= 7; sizes = sizes * 10 + 1, panels++) {
            FoldedTheatre x = strip(sizes, Integer.parseInt("222222".substring(0, panels - 1)));
            int seen = 0;
            for (int i = 0; i < panels; i++) {
                int layer = x.layer(0, i);
                Due.due("a layer of " + sizes + " is below " + panels, layer >= 0 && layer < panels);
                seen |= 1 << Math.floorMod(layer, 31);
            }
            Due.due("each layer of " + sizes + " is there", seen, (1 << panels) - 1);
        }
    }

    private static void panelOverACrease() {
        // The panel 2 ends at the place of the crease 0, or reaches over it by 1.
        ordersOf(233, 22, 2, 0, 2, 1);
        ordersOf(234, 22, 1, 1, 2, 0);
        // The panel 0 begins at the place of the crease 1, or reaches over it by 1.
        ordersOf(332, 22, 2, 0, 2, 1);
        ordersOf(432, 22, 1, 0, 2, 1);
        // Both at once: nothing is left beyond the boundary.
        ordersOf(333, 11, 2, 1, 0, 2);
        ordersOf(323, 11, 0);
        // It reaches over the crease, but does not lie between its panels.
        ordersOf(323, 12, 1, 2, 1, 0);
    }

    private static void creasesAtOnePlace() {
        // At the right end both: of 5 orders by mountains and valleys, 2 collide.
        ordersOf(1111, 222, 3, 0, 3, 1, 2);
        // At the left end both: the same, behind a panel that can only lie below its neighbour.
        ordersOf(23444, 2111, 3, 0, 1, 4, 2, 3);
        // At one place, but one at the right end and one at the left end: all 6 orders are possible.
        ordersOf(11211, 2111, 6, 0, 1, 4, 2, 3);
    }

    /** A row of stamps can be folded upon one of them in a known number of orders, with all creases taken together. */
    private static void rowsOfStamps() {
        int[] known = {2, 6, 16, 50, 144, 462};
        for (int panels = 2, sizes = 11; panels <= 7; panels++, sizes = sizes * 10 + 1) {
            int orders = 0;
            for (String creases : Model.Shapes.decided(panels - 1)) {
                orders += strip(sizes, Integer.parseInt(creases.replace('m', '1').replace('v', '2'))).orders(0);
            }
            Due.due("orders of " + sizes, orders, known[panels - 2]);
        }
    }

    private static void firstPossibleOrder() {
        // The orders 0312, 1203 and 2301: the layer of the panel 0.
        ordersOf(1111, 222, 3, 0, 3, 1, 2);
        // The orders 01423, 02413, 03412 and others: of several the layer of the panel 1.
        ordersOf(11211, 2111, 6, 0, 1, 4, 2, 3);
        // The orders 01243, 01342, 02341 and 12340: and so on.
        ordersOf(24121, 2122, 4, 0, 1, 2, 4, 3);
    }

    // ---- Reducing a strip

    private static void firstPanelNotLonger() {
        stepsOf(0, 23, 1, 1, 1);
        stepsOf(0, 33, 1, 1, 1);
        stepsOf(0, 43, 1, 2, 1);
        stepsOf(0, 333, 11, 1, 2);
        stepsOf(0, 424, 11, NOTHING, 0);
        stepsOf(0, 224, 11, 1, 2);
        stepsOf(0, 324, 11, NOTHING, 0);
    }

    private static void lastPanelNotLonger() {
        stepsOf(0, 421, 11, 2, 2);
        stepsOf(0, 422, 11, 2, 2);
        stepsOf(0, 423, 11, NOTHING, 0);
    }

    /** What is left behind the first panel, or ahead of the last one, is the other one with all other creases. */
    private static void goneWithItsCrease() {
        stepsOf(0, 1323, 122, 1, 1);
        whyOf(0, 1323, 122, 5);
        stepsOf(0, 1323, 212, 1, 2);
        whyOf(0, 1323, 212, 0);
        stepsOf(0, 3231, 221, 2, 1);
        whyOf(0, 3231, 221, 5);
        stepsOf(0, 3231, 212, 2, 2);
        whyOf(0, 3231, 212, 0);
    }

    /** A longer piece that was asked about before leaves nothing behind. */
    private static void shorterBehindLonger() {
        FoldedTheatre x = strip(1111111, 121212);
        x.add(1, 33333333, 12121212);
        x.add(0, 323, 11);
        x.add(0, 424, 22);
        x.add(1, 6666, 1111);
        for (int longer = 0; longer <= 1; longer++) {
            for (int shorter = 2; shorter <= 4; shorter++) {
                x.steps(longer);
                Due.due("step of piece " + shorter, x.step(shorter), NOTHING);
                x.orders(0);
                Due.due("steps of piece " + shorter, x.steps(shorter), 0);
                x.why(longer);
                Due.due("fewest of piece " + shorter, x.fewest(shorter), 1);
            }
        }
        Due.due("orders of 323", x.orders(2), 0);
        Due.due("orders of 424", x.orders(3), 0);
        Due.due("thickest of 323", x.thickest(2), 3);
        Due.due("why of 6666", x.why(4), 2);
    }

    private static void stepsInTheirOrder() {
        stepsOf(0, 121, 12, 1, 2);
        stepsOf(0, 3313, 112, 1, 2);
        stepsOf(0, 3133, 121, 2, 2);
    }

    private static void neitherFirstNorLastIsCrimped() {
        // The first and the last one that can be: the panels 1 and 5 of 7.
        stepsOf(0, 9123456, 121111, 11, 1);
        stepsOf(0, 9123456, 111111, NOTHING, 0);
        stepsOf(0, 6543219, 111112, 15, 1);
        stepsOf(0, 6543219, 111111, NOTHING, 0);
        stepsOf(0, 323, 12, 11, 1);
    }

    private static void crimpedNotLongerThanBoth() {
        stepsOf(0, 5124, 122, 11, 2);
        stepsOf(0, 5224, 122, 11, 2);
        stepsOf(0, 5324, 122, NOTHING, 0);
        stepsOf(0, 4215, 221, 12, 2);
        stepsOf(0, 4225, 221, 12, 2);
        stepsOf(0, 4235, 221, NOTHING, 0);
        stepsOf(0, 43334, 1122, 12, 2);
    }

    private static void oneMountainAndOneValley() {
        stepsOf(0, 323, 12, 11, 1);
        stepsOf(0, 323, 21, 11, 1);
        stepsOf(0, 323, 11, NOTHING, 0);
        stepsOf(0, 323, 22, NOTHING, 0);
        stepsOf(1, 6666, 2111, 10, 1);
        stepsOf(1, 6666, 1222, 10, 1);
        stepsOf(1, 6666, 1111, NOTHING, 0);
        stepsOf(1, 6666, 2222, NOTHING, 0);
    }

    private static void lowestPanelIsCrimped() {
        stepsOf(0, 32323, 1212, 11, 2);
        stepsOf(0, 32323, 1121, 13, 1);
        stepsOf(0, 32123, 1212, 12, 3);
    }

    /** The panels 4, 1 and 5 become one of length 8; the next one is as long, or shorter by 1. */
    private static void lengthOfTheCrimped() {
        stepsOf(0, 41589, 1222, 11, 3);
        stepsOf(0, 41579, 1222, 11, 1);
        whyOf(0, 41589, 1222, 0);
        whyOf(0, 41579, 1222, 5);
        // A length of 17, beyond the digits: longer than the panel of 9 behind it, which is longer than the next one.
        stepsOf(0, 919919, 12122, 11, 1);
        whyOf(0, 919919, 12122, 5);
        whyOf(0, 919919, 12121, 0);
    }

    private static void stripFoldsAsOnePanel() {
        whyOf(0, 11, 1, 0);
        whyOf(0, 19, 2, 0);
        whyOf(0, 91, 2, 0);
        whyOf(0, 9999999, 111111, 0);
        stepsOf(0, 9999999, 111111, 1, 6);
        whyOf(0, 323, 11, 5);
    }

    // ---- Reducing a corner

    private static void crimpedNotGreaterThanBoth() {
        // The angle 1 is as great as the angle 0 beside it, or greater by 1.
        stepsOf(1, 6666, 1122, 11, 1);
        stepsOf(1, 5676, 1122, NOTHING, 0);
        // The angle 1 is as great as the angle 2 beside it, or greater by 1.
        stepsOf(1, 7557, 1122, 11, 1);
        stepsOf(1, 7656, 1122, NOTHING, 0);
    }

    private static void aroundThePoint() {
        // The angle 0 is as great as the last one, or greater by 1.
        stepsOf(1, 5775, 1211, 10, 1);
        stepsOf(1, 6765, 1211, NOTHING, 0);
        // The last angle is as great as the angle 0, or greater by 1.
        stepsOf(1, 5775, 1112, 13, 1);
        stepsOf(1, 5676, 1112, NOTHING, 0);
    }

    private static void lowestAngleIsCrimped() {
        stepsOf(1, 6666, 1211, 10, 1);
        stepsOf(1, 6666, 1121, 11, 1);
        stepsOf(1, 6666, 1112, 12, 1);
        stepsOf(1, 33333333, 11111112, 16, 1);
        stepsOf(1, 5874, 1112, 13, 1);
    }

    /** The angles 3, 1 and 3 become one of 5, the last one; the angle before it is as great, or greater by 1. */
    private static void greatnessOfTheCrimped() {
        stepsOf(1, 136653, 121121, 10, 2);
        whyOf(1, 136653, 121121, 0);
        stepsOf(1, 135663, 121121, 10, 1);
        whyOf(1, 135663, 121121, 5);
        // The same corners with the least angle as the last one.
        stepsOf(1, 366531, 211211, 15, 2);
        stepsOf(1, 356631, 211211, 15, 1);
        // In the middle.
        stepsOf(1, 531366, 211211, 12, 2);
        stepsOf(1, 631356, 211211, 12, 1);
    }

    private static void moreThanTwoCreases() {
        stepsOf(1, 6666, 1112, 12, 1);
        stepsOf(1, 444444, 111122, 13, 2);
        stepsOf(1, 33333333, 11111222, 14, 3);
        stepsOf(1, 33333333, 12121212, 10, 3);
    }

    private static void cornerFoldsWithTwoAlike() {
        waysOf(1, 6666, 1112, 1);
        waysOf(1, 6666, 2221, 1);
        // Two creases that are left, a mountain and a valley.
        waysOf(1, 6666, 1122, 0);
        // Two angles that are left, 7 and 5.
        stepsOf(1, 7566, 1112, 13, 1);
        waysOf(1, 7566, 1112, 0);
        waysOf(1, 7566, 0, 0);
        // More than two creases are left.
        waysOf(1, 6666, 1111, 0);
    }

    // ---- What stands in the way

    private static void undecidedIsFour() {
        whyOf(0, 323, 12, 0);
        whyOf(0, 323, 2, 4);
        whyOf(0, 323, 10, 4);
        whyOf(0, 323, 11, 5);
        whyOf(1, 6666, 1112, 0);
        whyOf(1, 6666, 112, 4);
        whyOf(1, 6666, 1110, 4);
        whyOf(1, 7566, 1110, 4);
    }

    private static void evenAnglesAreTwelve() {
        whyOf(1, 5766, 1112, 1);
        whyOf(1, 6666, 1112, 0);
        whyOf(1, 7566, 1112, 1);
        whyOf(1, 344445, 112111, 1);
        whyOf(1, 444444, 121211, 0);
        whyOf(1, 544443, 112111, 1);
        whyOf(1, 33333324, 11111222, 1);
        whyOf(1, 33333333, 11111222, 0);
        whyOf(1, 43333332, 11111222, 1);
    }

    private static void kindsDifferByTwo() {
        whyOf(1, 6666, 1122, 2);
        whyOf(1, 6666, 1112, 0);
        whyOf(1, 6666, 1222, 0);
        whyOf(1, 6666, 1111, 2);
        whyOf(1, 6666, 2222, 2);
        whyOf(1, 444444, 111222, 2);
        whyOf(1, 444444, 111122, 0);
        whyOf(1, 444444, 222211, 0);
        whyOf(1, 444444, 111112, 2);
        whyOf(1, 33333333, 11112222, 2);
        whyOf(1, 33333333, 11111222, 0);
        whyOf(1, 33333333, 11111122, 2);
    }

    private static void angleLessThanBoth() {
        // The angle 0 is less than the angle 1 and than the last one, or as great as one of them.
        whyOf(1, 4587, 1112, 3);
        whyOf(1, 5577, 1112, 5);
        whyOf(1, 5775, 1121, 5);
        // The angle 2 is less than both, or as great as one of them.
        whyOf(1, 8745, 2111, 3);
        whyOf(1, 7557, 2111, 5);
        whyOf(1, 7755, 1211, 5);
        // The last angle.
        whyOf(1, 5874, 2122, 3);
        whyOf(1, 7458, 1112, 3);
        // Creases of two kinds.
        whyOf(1, 4587, 2111, 0);
        whyOf(1, 4587, 1211, 0);
    }

    private static void firstThatApplies() {
        // 1 ahead of 2, ahead of 3.
        whyOf(1, 7566, 1111, 1);
        whyOf(1, 5487, 1112, 1);
        // 2 ahead of 3.
        whyOf(1, 4587, 1111, 2);
        whyOf(1, 4587, 1122, 2);
        // 3 ahead of 5.
        whyOf(1, 4587, 1112, 3);
        // 2 ahead of 5.
        whyOf(1, 5577, 1111, 2);
        // 5, and nothing else.
        whyOf(1, 5577, 1112, 5);
        whyOf(1, 3993, 1121, 5);
    }

    private static void stripIsZeroOrFive() {
        whyOf(0, 11, 1, 0);
        whyOf(0, 1111111, 222222, 0);
        whyOf(0, 424, 11, 5);
        whyOf(0, 424, 12, 0);
    }

    public static void main(String[] args) {
        Due.test("Layers: from 0 at the bottom, no two the same one", BoundaryFoldingTest::eachLayerOnce);
        Due.test("Layers: a panel that reaches over a crease to both sides", BoundaryFoldingTest::panelOverACrease);
        Due.test("Layers: two creases at one place, at the same end", BoundaryFoldingTest::creasesAtOnePlace);
        Due.test("Layers: rows of 2 to 7 stamps", BoundaryFoldingTest::rowsOfStamps);
        Due.test("Layers: the first possible order", BoundaryFoldingTest::firstPossibleOrder);
        Due.test("Reducing: 1, the first panel, if it is not longer", BoundaryFoldingTest::firstPanelNotLonger);
        Due.test("Reducing: 2, the last panel likewise", BoundaryFoldingTest::lastPanelNotLonger);
        Due.test("Reducing: a panel is gone with its crease", BoundaryFoldingTest::goneWithItsCrease);
        Due.test("Reducing: a shorter piece behind a longer one", BoundaryFoldingTest::shorterBehindLonger);
        Due.test("Reducing: the first of these steps", BoundaryFoldingTest::stepsInTheirOrder);
        Due.test("Reducing: 3, neither the first nor the last one", BoundaryFoldingTest::neitherFirstNorLastIsCrimped);
        Due.test("Reducing: 3, not longer than both beside it", BoundaryFoldingTest::crimpedNotLongerThanBoth);
        Due.test("Reducing: one is a mountain and one is a valley", BoundaryFoldingTest::oneMountainAndOneValley);
        Due.test("Reducing: 3, the lowest such one", BoundaryFoldingTest::lowestPanelIsCrimped);
        Due.test("Reducing: as long as these two together less it", BoundaryFoldingTest::lengthOfTheCrimped);
        Due.test("Reducing: a strip folds as one panel", BoundaryFoldingTest::stripFoldsAsOnePanel);
        Due.test("Reducing: an angle not greater than both beside it", BoundaryFoldingTest::crimpedNotGreaterThanBoth);
        Due.test("Reducing: angles around the point", BoundaryFoldingTest::aroundThePoint);
        Due.test("Reducing: the lowest angle", BoundaryFoldingTest::lowestAngleIsCrimped);
        Due.test("Reducing: one angle, those left are numbered anew", BoundaryFoldingTest::greatnessOfTheCrimped);
        Due.test("Reducing: a corner with more than 2 creases", BoundaryFoldingTest::moreThanTwoCreases);
        Due.test("Reducing: a corner folds with 2 alike creases", BoundaryFoldingTest::cornerFoldsWithTwoAlike);
        Due.test("In the way: 4 with an undecided crease", BoundaryFoldingTest::undecidedIsFour);
        Due.test("In the way: 1, even angles are not 12", BoundaryFoldingTest::evenAnglesAreTwelve);
        Due.test("In the way: 2, the kinds do not differ by 2", BoundaryFoldingTest::kindsDifferByTwo);
        Due.test("In the way: 3, an angle less than both beside it", BoundaryFoldingTest::angleLessThanBoth);
        Due.test("In the way: the first that applies", BoundaryFoldingTest::firstThatApplies);
        Due.test("In the way: a strip, 0 or 5", BoundaryFoldingTest::stripIsZeroOrFive);
        Due.finish();
    }
}
