/** "Terms", Text, and the promises 26 and 27: each boundary of a text of commands, at it and just beyond it. */
public final class BoundaryTextTest extends Theatres {
    private static final String SIGNS_OF_A_KIND = "mvo";

    private BoundaryTextTest() {
    }

    private static FoldedTheatre theatre() {
        FoldedTheatre x = strip(323, 12);
        x.add(1, 6666, 1112);
        return x;
    }

    /** A text that is wrong at a position: nothing is carried out or refused. */
    private static void fault(String text, int position) {
        FoldedTheatre x = theatre();
        String old = Due.state(x);
        Due.due("read of " + text, Due.read(x, text), -2000 - position);
        Due.same("read of " + text, Due.state(x), old);
        Due.due("the text then", x.account(11), 0);
        Due.due("the changes then", x.account(12), 2);
        Due.due("nothing was refused", x.refusal(0), NOTHING);
    }

    private static void early(String text) {
        fault(text, text.length());
    }

    /** A text of commands, with the answer of the call. */
    private static void right(String text, int answer) {
        FoldedTheatre x = theatre();
        String old = Due.state(x);
        Due.due("read of " + text, Due.read(x, text), answer);
        Due.due("the text then", x.account(11), 0);
        Due.due("the changes then", x.account(12), answer > 0 ? 3 : 2);
        if (answer < 0) {
            Due.same("read of " + text, Due.state(x), old);
        }
    }

    private static String repeat(String text, int count) {
        return text.repeat(count);
    }

    // ---- the form of a text

    private static void oneOrMoreCommands() {
        early("");
        right("t0", 1);
        right("t0;t0", 2);
        right("t0;t0;t0", 3);
    }

    private static void semicolonBetween() {
        fault("t0t0", 2);
        fault("t0,t0", 2);
        fault("t0 ;t0", 2);
        fault(";t0", 0);
        early("t0;");
        fault("t0;;t0", 3);
        early("t0;t0;");
        fault("t0; t0", 3);
    }

    private static void lettersOfCommands() {
        right("s22:m", 1);
        right("c6666:mmmv", 1);
        right("m0.0=v", 1);
        right("t0", 1);
        right("f0", 1);
        right("f0;u0", 2);
        right("x0", 1);
        String others = " 09:;=.abdeghijklnopqrvwyz~SCMTFUX";
        for (int i = 0; i < others.length(); i++) {
            fault(others.charAt(i) + "0", 0);
            fault("t0;" + others.charAt(i) + "0", 3);
        }
    }

    private static void oneToEightSizes() {
        fault("s:m", 1);
        right("s1:m", BAD);
        right("s11:m", 1);
        right("s1111111:mmmmmm", 1);
        right("s12345678:m", BAD);
        fault("s123456789:m", 9);
        fault("c:m", 1);
        right("c1:m", BAD);
        right("c33333333:mmmmmmmm", 1);
        fault("c333333331:mmmmmmmm", 9);
    }

    private static void sizesFromOneToNine() {
        right("s19:m", 1);
        right("s91:m", 1);
        fault("s0", 1);
        fault("s10:m", 2);
        fault("s101:m", 2);
        fault("s1/", 2);
        fault("s1;", 2);
        fault("s-1", 1);
    }

    private static void oneToEightCreases() {
        fault("s12:;", 4);
        right("s12:m", 1);
        right("s12:mmmmmmmm", BAD);
        fault("s12:mmmmmmmmm", 12);
        fault("c6666:;", 6);
        right("c6666:m", BAD);
        right("c33333333:vvvvvvvv", 1);
        fault("c33333333:vvvvvvvvv", 18);
    }

    private static void signsOfKinds() {
        for (char sign = ' '; sign <= '~'; sign++) {
            boolean kind = SIGNS_OF_A_KIND.indexOf(sign) >= 0;
            if (kind) {
                right("s12:" + sign, 1);
                right("m0.0=" + sign, 1);
            } else {
                fault("s12:" + sign, 4);
                fault("m0.0=" + sign, 5);
            }
        }
        FoldedTheatre x = new FoldedTheatre();
        Due.due("read", Due.read(x, "s1234:mvo"), 1);
        Due.due("m is a mountain", x.crease(0, 0), 1);
        Due.due("v is a valley", x.crease(0, 1), 2);
        Due.due("o is undecided", x.crease(0, 2), 0);
        Due.due("read", Due.read(x, "m0.0=v;m0.1=o;m0.2=m"), 3);
        Due.due("a valley", x.crease(0, 0), 2);
        Due.due("undecided", x.crease(0, 1), 0);
        Due.due("a mountain", x.crease(0, 2), 1);
    }

    private static void oneSignOfAKind() {
        early("m0.0=");
        fault("m0.0=;", 5);
        right("m0.0=m", 1);
        fault("m0.0=mm", 6);
    }

    private static void oneDigitEach() {
        for (char letter : "tfux".toCharArray()) {
            early(letter + "");
            fault(letter + ";", 1);
            fault(letter + "/", 1);
            fault(letter + ":", 1);
            fault(letter + "00", 2);
            right(letter + "9", BAD);
            right(letter + "2", BAD);
        }
        early("m");
        early("m0");
        early("m0.");
        early("m0.0");
        fault("m.", 1);
        fault("m/", 1);
        fault("m:", 1);
        fault("m00", 2);
        fault("m0.=", 3);
        fault("m0./", 3);
        fault("m0.:", 3);
        fault("m0.00", 4);
        right("m0.9=m", BAD);
        right("m9.0=m", BAD);
    }

    private static void partsOfACommand() {
        early("s1");
        early("s12");
        fault("s12;", 3);
        fault("s12=m", 3);
        early("s12:");
        early("c6666");
        fault("c6666m", 5);
        fault("m0:0=m", 2);
        fault("m0.0:m", 4);
        fault("m0.0m", 4);
    }

    private static void faultPositionAtTheEnds() {
        fault("q", 0);
        early("s");
        fault("x9;x9;q", 6);
        fault("u0;q", 3);
        String most = repeat("t0;", 26);
        right(most + "t0", 27);
        early(most + "m0");
        fault(most + "tt", 79);
        fault("q" + most + "t", 0);
        early(repeat("t0;", 25) + "m0.0=");
        early(repeat("t0;", 25));
    }

    // ---- append

    private static void codesOfCharacters() {
        FoldedTheatre x = new FoldedTheatre();
        int[] beyond = {31, 127, 0, -1, 256 + 116, Integer.MAX_VALUE, Integer.MIN_VALUE};
        for (int code : beyond) {
            Due.due("append(" + code + ")", x.append(code), BAD);
            Due.due("the characters", x.account(11), 0);
        }
        Due.due("append(32)", x.append(32), 1);
        Due.due("append(126)", x.append(126), 2);
    }

    private static void eightyCharacters() {
        FoldedTheatre x = theatre();
        String most = repeat("t0;", 26);
        Due.write(x, most);
        Due.due("append of the 79th", x.append('t'), 79);
        Due.due("append of the 80th", x.append('0'), 80);
        Due.due("append of the 81st", x.append(';'), BAD);
        Due.due("append of the 81st", x.append('0'), BAD);
        Due.due("append of what is out of range", x.append(31), BAD);
        Due.due("the characters", x.account(11), 80);
        Due.due("the text is as it was", x.read(), 27);
        Due.due("append after read", x.append('t'), 1);
    }

    // ---- read

    private static void readEmptiesTheText() {
        String[] texts = {"t0", "q", "t9", "u0", ""};
        int[] answers = {1, -2000, BAD, REFUSED, -2000};
        for (int i = 0; i < texts.length; i++) {
            FoldedTheatre x = theatre();
            Due.due("read of " + texts[i], Due.read(x, texts[i]), answers[i]);
            Due.due("the characters then", x.account(11), 0);
            Due.due("read again", x.read(), -2000);
            Due.due("append then", x.append('t'), 1);
        }
    }

    private static void refusedAt(String text, int command) {
        FoldedTheatre x = theatre();
        String old = Due.state(x);
        Due.due("read of " + text, Due.read(x, text), REFUSED);
        Due.due("the command", x.refusal(2), command);
        Due.same("read of " + text, Due.state(x), old);
        Due.due("the changes then", x.account(12), 2);
        Due.due("undo then", x.undo(), 1);
        Due.due("a piece less", x.account(0), 1);
    }

    private static void allOrNone() {
        refusedAt("u0", 0);
        refusedAt("u0;t0;x1", 0);
        refusedAt("t0;u0;x1", 1);
        refusedAt("t0;x1;u0", 2);
        refusedAt(repeat("t0;", 26) + "u0", 26);
        right("t9;t0;x1", BAD);
        right("t0;t9;x1", BAD);
        right("t0;x1;t1", BAD);
        right("f0;x1;s22:v;f1;m1.0=v", REFUSED);
        right("f0;x1;s22:v;f1;u1;m1.0=o", 6);
    }

    private static void firstCommandThatFails() {
        FoldedTheatre x = theatre();
        Due.due("another error ahead of what is refused", Due.read(x, "t9;u0"), BAD);
        Due.due("nothing was refused", x.refusal(0), NOTHING);
        Due.due("what is refused ahead of another error", Due.read(x, "u0;t9"), REFUSED);
        Due.due("the command", x.refusal(2), 0);
        Due.due("what is wrong ahead of all", Due.read(x, "u1;t9;"), -2006);
        Due.due("the detail is the earlier one", x.refusal(1), 0);
    }

    private static void anotherErrorCode() {
        right("m2.0=m", BAD);
        right("m1.0=m", 1);
        right("m0.2=m", BAD);
        right("m0.1=m", 1);
        right("m1.4=m", BAD);
        right("m1.3=m", 1);
        right("t2", BAD);
        right("t1", 1);
        right("f2", BAD);
        right("f1", 1);
        right("x2", BAD);
        right("x1", 1);
        right("x0;x0;x0", BAD);
        right("x0;x0", 2);
        right("c6665:mmmm", BAD);
        right("c66666:mmmmm", BAD);
        right("s1:m", BAD);
        right("s11111111:mmmmmmm", BAD);
    }

    private static void numberOfCreasesTold() {
        right("s123:m", BAD);
        right("s123:o", BAD);
        right("s123:mm", 1);
        right("s123:oo", 1);
        right("s123:mmm", BAD);
        right("s123:ooo", BAD);
        right("s123:omm", BAD);
        right("s12:oooooooo", BAD);
        right("s1234567:ooooo", BAD);
        right("s1234567:oooooo", 1);
        right("s1234567:ooooooo", BAD);
        right("c6666:ooo", BAD);
        right("c6666:oooo", 1);
        right("c6666:ooooo", BAD);
        right("c33333333:ooooooo", BAD);
        right("c33333333:oooooooo", 1);
    }

    private static void refusedAheadOfNumberOfCreases() {
        FoldedTheatre x = full();
        Due.due("with 8 pieces", Due.read(x, "s123:o"), REFUSED);
        Due.due("the reason", x.refusal(0), 1);
        x.drop(7);
        Due.due("with 7 pieces", Due.read(x, "s123:o"), BAD);
        Due.due("the pieces", x.account(0), 7);
    }

    private static void readIsOneChange() {
        FoldedTheatre x = theatre();
        Due.due("read", Due.read(x, "t0;t1;f1;u1;x0;s11:o"), 6);
        Due.due("the changes", x.account(12), 3);
        Due.due("undo", x.undo(), 2);
        Due.same("undo of read", Due.state(x), Due.state(theatre()));
        FoldedTheatre y = theatre();
        Due.due("read of 27 commands", Due.read(y, repeat("t0;", 26) + "t0"), 27);
        Due.due("the changes", y.account(12), 3);
        Due.due("turned 27 times", y.crease(0, 0), 2);
        Due.due("undo", y.undo(), 2);
        Due.due("not turned", y.crease(0, 0), 1);
    }

    public static void main(String[] args) {
        Due.test("Text: one or more commands", BoundaryTextTest::oneOrMoreCommands);
        Due.test("Text: ; between them", BoundaryTextTest::semicolonBetween);
        Due.test("Text: the letters of commands", BoundaryTextTest::lettersOfCommands);
        Due.test("Text: sizes are one to eight digits", BoundaryTextTest::oneToEightSizes);
        Due.test("Text: digits from 1 to 9", BoundaryTextTest::sizesFromOneToNine);
        Due.test("Text: creases are one to eight signs", BoundaryTextTest::oneToEightCreases);
        Due.test("Text: signs m, v or o", BoundaryTextTest::signsOfKinds);
        Due.test("Text: a kind is one such sign", BoundaryTextTest::oneSignOfAKind);
        Due.test("Text: a piece and a crease are one digit each", BoundaryTextTest::oneDigitEach);
        Due.test("Text: the parts of a command", BoundaryTextTest::partsOfACommand);
        Due.test("Text: the fault position, or its length", BoundaryTextTest::faultPositionAtTheEnds);
        Due.test("append: codes from 32 to 126", BoundaryTextTest::codesOfCharacters);
        Due.test("append: at most 80 characters", BoundaryTextTest::eightyCharacters);
        Due.test("read: it empties the text", BoundaryTextTest::readEmptiesTheText);
        Due.test("read: all or none", BoundaryTextTest::allOrNone);
        Due.test("read: the first command that fails", BoundaryTextTest::firstCommandThatFails);
        Due.test("read: BAD if a call returns another error code", BoundaryTextTest::anotherErrorCode);
        Due.test("read: BAD if another number of creases is told", BoundaryTextTest::numberOfCreasesTold);
        Due.test("read: refused ahead of the number of creases", BoundaryTextTest::refusedAheadOfNumberOfCreases);
        Due.test("read: it is one change", BoundaryTextTest::readIsOneChange);
        Due.finish();
    }
}
