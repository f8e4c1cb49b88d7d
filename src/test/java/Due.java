/** Runs tests, counts the answers that are not the ones that are due, and prints them. */
final class Due {
    private static int wrong = 0;
    private static int tests = 0;

    private Due() {
    }

    /** Runs a test and tells in one line, which .ci/run counts, whether all its answers were due. */
    static void test(String name, Runnable body) {
        int before = wrong;
        tests++;
        try {
            body.run();
        } catch (RuntimeException thrown) {
            wrong++;
            System.out.println(name + " threw " + thrown);
        }
        System.out.println((wrong == before ? "passed: " : "FAILED: ") + name);
    }

    static void due(String call, long got, long want) {
        if (got != want) {
            wrong++;
            System.out.println(call + " answered " + got + ", due is " + want);
        }
    }

    static void due(String what, boolean got) {
        due(what, got ? 1 : 0, 1);
    }

    /** Appends a whole text to the one that is there. */
    static void write(FoldedTheatre theatre, String text) {
        int old = theatre.account(11);
        for (int i = 0; i < text.length(); i++) {
            due("append(" + (int) text.charAt(i) + ")", theatre.append(text.charAt(i)), old + i + 1);
        }
    }

    /** Appends a whole text and reads it. */
    static int read(FoldedTheatre theatre, String text) {
        write(theatre, text);
        return theatre.read();
    }

    /** The answers that tell the whole state but the snapshot, what undo holds, and the text. */
    static String state(FoldedTheatre theatre) {
        StringBuilder all = new StringBuilder();
        for (int what = 0; what <= 10; what++) {
            all.append(theatre.account(what)).append(' ');
        }
        for (int piece = 0; piece < theatre.account(0); piece++) {
            all.append('|');
            for (int what = 0; what <= 8; what++) {
                all.append(theatre.piece(piece, what)).append(' ');
            }
            for (int i = 0; i < theatre.piece(piece, 1); i++) {
                all.append(theatre.size(piece, i));
            }
            all.append(':');
            for (int i = 0; i < theatre.piece(piece, 2); i++) {
                all.append(theatre.crease(piece, i));
            }
        }
        return all.toString();
    }

    static void same(String what, String got, String want) {
        if (!got.equals(want)) {
            wrong++;
            System.out.println(what + ": the state is " + got + ", due is " + want);
        }
    }

    static void finish() {
        System.out.println(wrong == 0 ? "all answers are as due" : wrong + " answers are not as due");
        if (wrong != 0 || tests == 0) {
            System.exit(1);
        }
    }
}
