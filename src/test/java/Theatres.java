/** What tests of the theatre have in common. */
class Theatres {
    static final int NONE = -1001;
    static final int BAD = -1002;
    static final int REFUSED = -1003;
    static final int NOTHING = -1004;
    static final int[] NO_PIECES = {-1, 8, 9, -1001, Integer.MAX_VALUE, Integer.MIN_VALUE};

    Theatres() {
    }

    static void refused(FoldedTheatre x, String call, int answer, int reason, int detail) {
        Due.due(call, answer, REFUSED);
        Due.due(call + ", the reason", x.refusal(0), reason);
        Due.due(call + ", the detail", x.refusal(1), detail);
        Due.due(call + ", the command", x.refusal(2), NOTHING);
    }

    static FoldedTheatre with(int kind, int sizes, int creases) {
        FoldedTheatre x = new FoldedTheatre();
        Due.due("add(" + kind + ", " + sizes + ", " + creases + ")", x.add(kind, sizes, creases), 0);
        return x;
    }

    static FoldedTheatre strip(int sizes, int creases) {
        return with(0, sizes, creases);
    }

    static FoldedTheatre corner(int sizes, int creases) {
        return with(1, sizes, creases);
    }

    static FoldedTheatre full() {
        return strips(8);
    }

    static FoldedTheatre strips(int count) {
        FoldedTheatre x = new FoldedTheatre();
        for (int i = 0; i < count; i++) {
            Due.due("add", x.add(0, 22, 1), i);
        }
        return x;
    }
}
