import java.util.List;
import java.util.Random;

/** What is told of single strips and corners, for many of them, against the model; and what two ways have in common. */
public final class ShapesTest {
    private static final String[] SIGNS = {"o", "m", "v"};

    private static int number(String creases) {
        return Integer.parseInt(creases.replace('o', '0').replace('m', '1').replace('v', '2'));
    }

    private static void compare(boolean corner, String sizes, String creases, boolean whole) {
        FoldedTheatre theatre = new FoldedTheatre();
        Model model = new Model();
        int kind = corner ? 1 : 0;
        String name = (corner ? "corner " : "strip ") + sizes + " " + creases + ": ";
        Due.due(name + "add", theatre.add(kind, Integer.parseInt(sizes), number(creases)), 0);
        model.add(kind, Integer.parseInt(sizes), number(creases));
        Due.due(name + "why", theatre.why(0), model.why(0));
        Due.due(name + "step", theatre.step(0), model.step(0));
        Due.due(name + "steps", theatre.steps(0), model.steps(0));
        Due.due(name + "piece", theatre.piece(0, 8), model.piece(0, 8));
        if (!whole) {
            return;
        }
        Due.due(name + "ways", theatre.ways(0), model.ways(0));
        Due.due(name + "fewest", theatre.fewest(0), model.fewest(0));
        Due.due(name + "foldsAgain", theatre.foldsAgain(0), model.foldsAgain(0));
        Due.due(name + "orders", theatre.orders(0), model.orders(0));
        Due.due(name + "thickest", theatre.thickest(0), model.thickest(0));
        Due.due(name + "reflected", theatre.reflected(0), model.reflected(0));
        for (int i = 0; i <= sizes.length(); i++) {
            Due.due(name + "layer " + i, theatre.layer(0, i), model.layer(0, i));
            Due.due(name + "place " + i, theatre.place(0, i), model.place(0, i));
        }
        if (theatre.piece(0, 5) == 0) {
            boolean folds = theatre.why(0) == 0;
            Due.due(name + "ways of a decided piece", theatre.ways(0), folds ? 1 : 0);
            Due.due(name + "fewest of a piece that folds", theatre.fewest(0) == 0 == folds);
            Due.due(name + "fold", theatre.fold(0), folds ? theatre.piece(0, 8) : FoldedTheatre.REFUSED);
        }
    }

    /** By the theory both ways agree for every decided strip: this tells that they are told rightly. */
    private static void bothWays(String sizes) {
        for (String creases : Model.Shapes.decided(sizes.length() - 1)) {
            FoldedTheatre theatre = new FoldedTheatre();
            theatre.add(0, Integer.parseInt(sizes), number(creases));
            Due.due("both ways " + sizes + " " + creases, theatre.foldsAgain(0), theatre.why(0) == 0 ? 1 : 0);
        }
    }

    private static void allStrips(String sizes, int longest, int greatest) {
        if (sizes.length() >= 2) {
            for (String creases : Model.Shapes.decided(sizes.length() - 1)) {
                compare(false, sizes, creases, sizes.length() <= 4);
            }
            bothWays(sizes);
        }
        for (int size = 1; size <= greatest && sizes.length() < longest; size++) {
            allStrips(sizes + size, longest, greatest);
        }
    }

    private static void someStrips(Random random, int count) {
        for (int i = 0; i < count; i++) {
            StringBuilder sizes = new StringBuilder();
            StringBuilder creases = new StringBuilder();
            int panels = 2 + random.nextInt(6);
            int greatest = 2 + random.nextInt(8);
            for (int k = 0; k < panels; k++) {
                sizes.append(1 + random.nextInt(greatest));
                creases.append(k == 0 ? "" : SIGNS[random.nextInt(8) == 0 ? 0 : 1 + random.nextInt(2)]);
            }
            compare(false, sizes.toString(), creases.toString(), true);
            bothWays(sizes.toString());
        }
    }

    private static void allCorners(String sizes, int left, int angles, int each, int[] counter) {
        if (sizes.length() == angles) {
            if (left == 0 && counter[0]++ % each == 0) {
                for (String creases : Model.Shapes.decided(angles)) {
                    compare(true, sizes, creases, counter[0] % 50 == 0 || angles == 4);
                }
                compare(true, sizes, "o".repeat(angles), true);
            }
            return;
        }
        int more = angles - sizes.length() - 1;
        for (int size = 1; size <= 9; size++) {
            int rest = left - size;
            if (rest >= more && rest <= 9 * more) {
                allCorners(sizes + size, rest, angles, each, counter);
            }
        }
    }

    /** A corner that can be reduced has nothing else in the way: ways and why tell the same. */
    private static void evenCorners(Random random, int count) {
        for (int i = 0; i < count; i++) {
            int[] evens = parts(random);
            int[] odds = parts(random);
            StringBuilder sizes = new StringBuilder();
            for (int k = 0; k < 4; k++) {
                sizes.append(evens[k]).append(odds[k]);
            }
            for (String creases : Model.Shapes.decided(8)) {
                compare(true, sizes.toString(), creases, false);
                Model.Piece piece = new Model.Piece(true, sizes.toString(), creases, false);
                Due.due("corner " + sizes + " " + creases, Model.Shapes.folds(piece) == (Model.Shapes.why(piece) == 0));
            }
        }
    }

    /** Four numbers from 1 to 9 with the sum 12. */
    private static int[] parts(Random random) {
        int[] parts = {1, 1, 1, 1};
        for (int left = 8; left > 0; left--) {
            parts[random.nextInt(4)]++;
        }
        return parts;
    }

    private static void faultPositions(Random random) {
        List<String> starts = List.of("", "s12:m", "c6666:mmmv;", "m0.0=", "t0;f1;u2;x3", "s12345678", "s1:mmmmmmmm");
        for (int i = 0; i < 20000; i++) {
            StringBuilder text = new StringBuilder(starts.get(random.nextInt(starts.size())));
            int more = random.nextInt(9);
            for (int k = 0; k < more; k++) {
                text.append("sctfuxmvo0159:;.=".charAt(random.nextInt(17)));
            }
            int fault = Model.faultPosition(text.toString());
            int answer = Due.read(new FoldedTheatre(), text.toString());
            if (fault >= 0) {
                Due.due("read of " + text, answer, -2000 - fault);
            } else {
                Due.due("read of the right text " + text, answer > -2000);
            }
        }
    }

    public static void main(String[] args) {
        Random random = new Random(7);
        Due.test("Shapes: all strips of 2 to 6 panels from 1 to 3", () -> allStrips("", 6, 3));
        Due.test("Shapes: some longer strips", () -> someStrips(random, 1500));
        Due.test("Shapes: all corners of 4 angles", () -> allCorners("", 24, 4, 1, new int[1]));
        Due.test("Shapes: some corners of 6 angles", () -> allCorners("", 24, 6, 40, new int[1]));
        Due.test("Shapes: some corners of 8 angles", () -> allCorners("", 24, 8, 1000, new int[1]));
        Due.test("Shapes: corners with even angles of 12 together", () -> evenCorners(random, 300));
        Due.test("Shapes: fault positions of many texts", () -> faultPositions(random));
        Due.finish();
    }
}
