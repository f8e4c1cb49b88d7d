import java.util.Random;

/** Runs of calls, drawn by fixed seeds, on a theatre and on the model. */
public final class RandomRunsTest {
    private static final int[] SIZES = {12, 21, 11, 323, 212, 1221, 2112, 31413, 1234567, 9999999, 1111111, 1212121,
        3131313, 2132312, 54321, 99, 9191, 6666, 444444, 33333333, 3939, 393936, 484224, 282822, 24242424, 15152424,
        33332424, 9339, 5757, 12993, 12345678, 0, 1, 102, 8888, 888, 66666, 44444444, -12, Integer.MAX_VALUE,
        Integer.MIN_VALUE};
    private static final int[] ODD = {-1, 8, 9, 10, 99, 100, -1001, Integer.MAX_VALUE, Integer.MIN_VALUE};

    private final Random random;
    private FoldedTheatre theatre = new FoldedTheatre();
    private Model model = new Model();
    private final StringBuilder calls = new StringBuilder();

    private RandomRunsTest(int seed) {
        random = new Random(seed);
    }

    private int below(int bound) {
        return random.nextInt(bound);
    }

    private int odd(int usual) {
        return below(25) == 0 ? ODD[below(ODD.length)] : usual;
    }

    private int piece() {
        return odd(below(Math.max(1, model.account(0))));
    }

    private int creases(int digits) {
        int number = 0;
        for (int i = 0; i < digits; i++) {
            number = number * 10 + (below(6) == 0 ? 0 : 1 + below(2));
        }
        return number;
    }

    private void same(String call, int got, int want) {
        calls.append(call).append(" = ").append(want).append("; ");
        if (got != want) {
            Due.due(calls.toString() + call, got, want);
        }
    }

    private void text(String text) {
        for (int i = 0; i < text.length(); i++) {
            same("append(" + (int) text.charAt(i) + ")", theatre.append(text.charAt(i)), model.append(text.charAt(i)));
        }
    }

    private String signs(int count) {
        StringBuilder signs = new StringBuilder();
        for (int i = 0; i < count; i++) {
            signs.append("mvmvmvo".charAt(below(7)));
        }
        return signs.toString();
    }

    private String command() {
        int piece = below(9);
        switch (below(8)) {
            case 0:
            case 1:
                String sizes = Integer.toString(Math.abs(SIZES[below(SIZES.length - 9)]));
                return "s" + sizes + ":" + signs(Math.max(1, sizes.length() - (below(8) == 0 ? 2 : 1)));
            case 2:
                String angles = Integer.toString(SIZES[17 + below(12)]);
                return "c" + angles + ":" + signs(below(8) == 0 ? 3 : angles.length());
            case 3: return "m" + piece + "." + below(5) + "=" + signs(1);
            case 4: return "t" + piece;
            case 5: return "f" + piece;
            case 6: return "u" + piece;
            default: return "x" + piece;
        }
    }

    private void readText() {
        StringBuilder text = new StringBuilder();
        int commands = 1 + below(4);
        for (int i = 0; i < commands; i++) {
            text.append(i == 0 ? "" : ";").append(command());
        }
        if (below(3) == 0) {
            text.setCharAt(below(text.length()), "sc0:;.=mvo9f x~".charAt(below(15)));
        }
        if (below(10) == 0) {
            text.setLength(below(text.length() + 1));
        }
        text(text.toString());
        same("read()", theatre.read(), model.read());
    }

    private void change() {
        int piece = piece();
        int other = piece();
        int crease = odd(below(7));
        int kind = odd(below(3));
        switch (below(13)) {
            case 0:
                int width = odd(below(4) == 0 ? 1 + below(40) : 30 + below(70));
                same("stage(" + width + ")", theatre.stage(width), model.stage(width));
                return;
            case 1:
            case 2:
                int sizes = SIZES[below(SIZES.length)];
                int creases = odd(creases(Integer.toString(Math.abs(sizes)).length() - below(3)));
                int shape = odd(sizes > 0 && Integer.toString(sizes).chars().map(c -> c - '0').sum() == 24 ? 1 : 0);
                String call = "add(" + shape + ", " + sizes + ", " + creases + ")";
                same(call, theatre.add(shape, sizes, creases), model.add(shape, sizes, creases));
                return;
            case 3:
                call = "mark(" + piece + ", " + crease + ", " + kind + ")";
                same(call, theatre.mark(piece, crease, kind), model.mark(piece, crease, kind));
                return;
            case 4: same("turn(" + piece + ")", theatre.turn(piece), model.turn(piece)); return;
            case 5:
                call = "rotate(" + piece + ", " + crease + ")";
                same(call, theatre.rotate(piece, crease), model.rotate(piece, crease));
                return;
            case 6:
                call = "join(" + piece + ", " + other + ", " + kind + ")";
                same(call, theatre.join(piece, other, kind), model.join(piece, other, kind));
                return;
            case 7:
                same("cut(" + piece + ", " + crease + ")", theatre.cut(piece, crease), model.cut(piece, crease));
                return;
            case 8:
            case 9: same("fold(" + piece + ")", theatre.fold(piece), model.fold(piece)); return;
            case 10: same("unfold(" + piece + ")", theatre.unfold(piece), model.unfold(piece)); return;
            case 11:
                if (below(2) == 0) {
                    same("drop(" + piece + ")", theatre.drop(piece), model.drop(piece));
                }
                return;
            default: readText();
        }
    }

    private void look() {
        int piece = piece();
        int what = odd(below(13));
        int index = odd(below(9));
        same("piece(" + piece + ", " + what + ")", theatre.piece(piece, what), model.piece(piece, what));
        same("size(" + piece + ", " + index + ")", theatre.size(piece, index), model.size(piece, index));
        same("crease(" + piece + ", " + index + ")", theatre.crease(piece, index), model.crease(piece, index));
        same("why(" + piece + ")", theatre.why(piece), model.why(piece));
        same("foldsAgain(" + piece + ")", theatre.foldsAgain(piece), model.foldsAgain(piece));
        same("step(" + piece + ")", theatre.step(piece), model.step(piece));
        same("steps(" + piece + ")", theatre.steps(piece), model.steps(piece));
        same("ways(" + piece + ")", theatre.ways(piece), model.ways(piece));
        same("fewest(" + piece + ")", theatre.fewest(piece), model.fewest(piece));
        same("place(" + piece + ", " + index + ")", theatre.place(piece, index), model.place(piece, index));
        same("layer(" + piece + ", " + index + ")", theatre.layer(piece, index), model.layer(piece, index));
        same("orders(" + piece + ")", theatre.orders(piece), model.orders(piece));
        same("thickest(" + piece + ")", theatre.thickest(piece), model.thickest(piece));
        same("reflected(" + piece + ")", theatre.reflected(piece), model.reflected(piece));
        same("refusal(" + what + ")", theatre.refusal(what), model.refusal(what));
        same("account(" + what + ")", theatre.account(what), model.account(what));
        same("share()", theatre.share(), model.share());
    }

    private void lookAtAll() {
        for (int what = -1; what <= 13; what++) {
            same("account(" + what + ")", theatre.account(what), model.account(what));
        }
        for (int what = 0; what <= 2; what++) {
            same("refusal(" + what + ")", theatre.refusal(what), model.refusal(what));
        }
        for (int piece = 0; piece < model.account(0); piece++) {
            for (int what = 0; what <= 8; what++) {
                same("piece(" + piece + ", " + what + ")", theatre.piece(piece, what), model.piece(piece, what));
            }
            for (int i = 0; i < 8; i++) {
                same("size(" + piece + ", " + i + ")", theatre.size(piece, i), model.size(piece, i));
                same("crease(" + piece + ", " + i + ")", theatre.crease(piece, i), model.crease(piece, i));
            }
        }
    }

    private void run() {
        for (int i = 0; i < 90; i++) {
            int draw = below(20);
            if (draw < 15) {
                change();
            } else if (draw < 16) {
                same("undo()", theatre.undo(), model.undo());
            } else if (draw < 17 && below(3) == 0) {
                boolean save = below(2) == 0;
                same(save ? "save()" : "restore()", save ? theatre.save() : theatre.restore(),
                    save ? model.save() : model.restore());
            } else if (draw < 18) {
                look();
            } else if (draw < 19) {
                text(command());
            } else {
                int code = odd(32 + below(95));
                same("append(" + code + ")", theatre.append(code), model.append(code));
            }
        }
        lookAtAll();
    }

    private static void runs() {
        for (int seed = 1; seed <= 3000; seed++) {
            new RandomRunsTest(seed).run();
        }
    }

    public static void main(String[] args) {
        Due.test("Random runs: 3000 runs of calls answer as the model does", RandomRunsTest::runs);
        Due.finish();
    }
}
