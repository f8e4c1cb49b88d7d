/** A paper theatre of pieces that are folded flat. What each call promises stands in ../shared/DOC.md. */
public final class FoldedTheatre {
    public static final int NONE = -1001;
    public static final int BAD = -1002;
    public static final int REFUSED = -1003;
    public static final int NOTHING = -1004;

    private static final int STRIP = 0;
    private static final int CORNER = 1;
    private static final int UNDECIDED = 0;
    private static final int MOUNTAIN = 1;
    private static final int VALLEY = 2;

    private static final int MOST_PIECES = 8;
    private static final int MOST_SIZES = 8;
    private static final int FEWEST_PANELS = 2;
    private static final int MOST_PANELS = 7;
    private static final int WHOLE_TURN = 24;
    private static final int FIRST_WIDTH = 30;
    private static final int GREATEST_WIDTH = 99;
    private static final int MOST_CHANGES = 8;
    private static final int MOST_CHARACTERS = 80;
    private static final int LOWEST_CODE = 32;
    private static final int HIGHEST_CODE = 126;
    private static final int TEXT_IS_WRONG = -2000;

    private static final int REASON_FULL = 1;
    private static final int REASON_FOLDED = 2;
    private static final int REASON_KIND = 3;
    private static final int REASON_UNDECIDED = 4;
    private static final int REASON_IN_THE_WAY = 5;
    private static final int REASON_PANELS = 6;
    private static final int REASON_WIDTH = 7;

    private static final int NO_STEP = 0;
    private static final int FIRST_PANEL_STEP = 1;
    private static final int LAST_PANEL_STEP = 2;
    private static final int CRIMP_STEP = 10;

    private static final int CLEAR = 0;
    private static final int EVEN_ANGLES_IN_THE_WAY = 1;
    private static final int KINDS_IN_THE_WAY = 2;
    private static final int SMALL_ANGLE_IN_THE_WAY = 3;
    private static final int UNDECIDED_IN_THE_WAY = 4;
    private static final int REDUCING_IN_THE_WAY = 5;

    /** Far above the some thousand turns that a search for seven layers takes. */
    private static final int MOST_TURNS = 1000000;

    private final State now = new State();
    private final State before = new State();
    private final State snapshot = new State();
    private final History history = new History();
    private final Script script = new Script();
    private final Reducer reducer = new Reducer();
    private final Layers layers = new Layers();
    private final Piece draft = new Piece();
    private boolean hasSnapshot;
    /** The command of a text that is carried out, or NOTHING outside of read. */
    private int command = NOTHING;
    /** The reason of the latest refusal, 0 before the first one. */
    private int reason;
    private int detail;
    private int refusedCommand = NOTHING;

    public FoldedTheatre() {
    }

    // ---- pieces

    public int stage(int width) {
        if (width < 1 || width > GREATEST_WIDTH) {
            return BAD;
        }
        int lacking = now.occupied() - width;
        if (lacking > 0) {
            return refuse(REASON_WIDTH, lacking);
        }
        history.push(now);
        int previous = now.width;
        now.width = width;
        return previous;
    }

    public int add(int kind, int sizes, int creases) {
        if (kind != STRIP && kind != CORNER) {
            return BAD;
        }
        if (!draft.takeSizes(kind, sizes) || !draft.takeCreases(creases)) {
            return BAD;
        }
        if (now.count >= MOST_PIECES) {
            return refuse(REASON_FULL, MOST_PIECES);
        }
        history.push(now);
        now.addCopyOf(draft);
        return now.count - 1;
    }

    public int mark(int piece, int crease, int kind) {
        Piece marked = now.pieceAt(piece);
        if (marked == null || !marked.hasCrease(crease)) {
            return NONE;
        }
        if (!isCreaseKind(kind)) {
            return BAD;
        }
        if (marked.folded) {
            return refuse(REASON_FOLDED, piece);
        }
        history.push(now);
        int previous = at(marked.creases, crease);
        put(marked.creases, crease, kind);
        return previous;
    }

    public int turn(int piece) {
        Piece turned = now.pieceAt(piece);
        if (turned == null) {
            return NONE;
        }
        if (turned.folded) {
            return refuse(REASON_FOLDED, piece);
        }
        history.push(now);
        turned.turnOver();
        return turned.creaseCount() - turned.countOf(UNDECIDED);
    }

    public int rotate(int piece, int crease) {
        Piece corner = now.pieceAt(piece);
        if (corner == null || !corner.hasCrease(crease)) {
            return NONE;
        }
        if (corner.folded) {
            return refuse(REASON_FOLDED, piece);
        }
        if (corner.kind != CORNER) {
            return refuse(REASON_KIND, piece);
        }
        history.push(now);
        draft.copyFrom(corner);
        corner.becomeRotated(draft, crease);
        return corner.sizesAsNumber();
    }

    public int join(int piece, int other, int kind) {
        Piece first = now.pieceAt(piece);
        Piece second = now.pieceAt(other);
        if (first == null || second == null || piece == other) {
            return NONE;
        }
        if (!isCreaseKind(kind)) {
            return BAD;
        }
        if (first.folded || second.folded) {
            return refuse(REASON_FOLDED, first.folded ? piece : other);
        }
        if (first.kind != STRIP || second.kind != STRIP) {
            return refuse(REASON_KIND, first.kind != STRIP ? piece : other);
        }
        int panels = first.count + second.count;
        if (panels > MOST_PANELS) {
            return refuse(REASON_PANELS, panels);
        }
        history.push(now);
        first.lengthenBy(second, kind);
        now.removeAt(other);
        return panels;
    }

    public int cut(int piece, int crease) {
        Piece strip = now.pieceAt(piece);
        if (strip == null || !strip.hasCrease(crease)) {
            return NONE;
        }
        if (now.count >= MOST_PIECES) {
            return refuse(REASON_FULL, MOST_PIECES);
        }
        if (strip.folded) {
            return refuse(REASON_FOLDED, piece);
        }
        if (strip.kind != STRIP) {
            return refuse(REASON_KIND, piece);
        }
        int left = crease + 1;
        int smaller = Math.min(left, strip.count - left);
        if (smaller < FEWEST_PANELS) {
            return refuse(REASON_PANELS, smaller);
        }
        history.push(now);
        draft.becomeEndOf(strip, left);
        strip.count = left;
        now.addCopyOf(draft);
        return now.count - 1;
    }

    public int fold(int piece) {
        Piece folding = now.pieceAt(piece);
        if (folding == null) {
            return NONE;
        }
        if (folding.folded) {
            return refuse(REASON_FOLDED, piece);
        }
        if (folding.isUndecided()) {
            return refuse(REASON_UNDECIDED, folding.lowestUndecided());
        }
        int inTheWay = reducer.whatStandsInTheWay(folding);
        if (inTheWay != CLEAR) {
            return refuse(REASON_IN_THE_WAY, inTheWay);
        }
        int width = folding.width();
        int lacking = now.occupied() + width - now.width;
        if (lacking > 0) {
            return refuse(REASON_WIDTH, lacking);
        }
        history.push(now);
        folding.folded = true;
        now.folds++;
        return width;
    }

    public int unfold(int piece) {
        Piece unfolding = now.pieceAt(piece);
        if (unfolding == null) {
            return NONE;
        }
        if (!unfolding.folded) {
            return refuse(REASON_FOLDED, piece);
        }
        history.push(now);
        unfolding.folded = false;
        return now.width - now.occupied();
    }

    public int drop(int piece) {
        if (now.pieceAt(piece) == null) {
            return NONE;
        }
        history.push(now);
        now.removeAt(piece);
        return now.count;
    }

    public int piece(int piece, int what) {
        Piece told = now.pieceAt(piece);
        if (told == null) {
            return NONE;
        }
        switch (what) {
            case 0: return told.kind;
            case 1: return told.count;
            case 2: return told.creaseCount();
            case 3: return told.countOf(MOUNTAIN);
            case 4: return told.countOf(VALLEY);
            case 5: return told.countOf(UNDECIDED);
            case 6: return told.sum();
            case 7: return told.folded ? 1 : 0;
            case 8: return told.width();
            default: return BAD;
        }
    }

    public int size(int piece, int index) {
        Piece told = now.pieceAt(piece);
        if (told == null || index < 0 || index >= told.count) {
            return NONE;
        }
        return at(told.sizes, index);
    }

    public int crease(int piece, int crease) {
        Piece told = now.pieceAt(piece);
        if (told == null || !told.hasCrease(crease)) {
            return NONE;
        }
        return at(told.creases, crease);
    }

    // ---- folding

    public int why(int piece) {
        Piece told = now.pieceAt(piece);
        return told == null ? NONE : reducer.whatStandsInTheWay(told);
    }

    public int foldsAgain(int piece) {
        Piece strip = now.pieceAt(piece);
        int error = errorOfDecidedStrip(strip);
        if (error != 0 || strip == null) {
            return error;
        }
        return layers.search(strip, 1);
    }

    public int step(int piece) {
        Piece told = now.pieceAt(piece);
        if (told == null) {
            return NONE;
        }
        if (told.isUndecided()) {
            return NOTHING;
        }
        reducer.load(told);
        int first = reducer.firstStep();
        return first == NO_STEP ? NOTHING : first;
    }

    public int steps(int piece) {
        Piece told = now.pieceAt(piece);
        if (told == null) {
            return NONE;
        }
        if (told.isUndecided()) {
            return NOTHING;
        }
        reducer.load(told);
        return reducer.reduce();
    }

    public int ways(int piece) {
        Piece told = now.pieceAt(piece);
        return told == null ? NONE : reducer.countWays(told);
    }

    public int fewest(int piece) {
        Piece told = now.pieceAt(piece);
        return told == null ? NONE : reducer.fewestChanges(told);
    }

    // ---- places, layers, reflections

    public int place(int piece, int panel) {
        Piece strip = now.pieceAt(piece);
        if (strip == null) {
            return NONE;
        }
        if (strip.kind != STRIP) {
            return BAD;
        }
        if (panel < 0 || panel > strip.count) {
            return NONE;
        }
        return strip.placeOf(panel);
    }

    public int layer(int piece, int panel) {
        Piece strip = now.pieceAt(piece);
        if (strip == null) {
            return NONE;
        }
        if (strip.kind == STRIP && (panel < 0 || panel >= strip.count)) {
            return NONE;
        }
        int error = errorOfDecidedStrip(strip);
        if (error != 0) {
            return error;
        }
        return layers.search(strip, 1) == 0 ? NOTHING : at(layers.order, panel);
    }

    public int orders(int piece) {
        Piece strip = now.pieceAt(piece);
        int error = errorOfDecidedStrip(strip);
        if (error != 0 || strip == null) {
            return error;
        }
        return layers.search(strip, MOST_TURNS);
    }

    public int thickest(int piece) {
        Piece strip = now.pieceAt(piece);
        if (strip == null) {
            return NONE;
        }
        return strip.kind != STRIP ? BAD : strip.thickness();
    }

    public int reflected(int piece) {
        Piece corner = now.pieceAt(piece);
        if (corner == null) {
            return NONE;
        }
        return corner.kind != CORNER ? BAD : corner.reflection();
    }

    // ---- texts, accounts

    public int append(int code) {
        if (code < LOWEST_CODE || code > HIGHEST_CODE || script.length >= MOST_CHARACTERS) {
            return BAD;
        }
        script.write(code);
        return script.length;
    }

    public int read() {
        int fault = script.faultPosition();
        if (fault != NOTHING) {
            script.clear();
            return TEXT_IS_WRONG - fault;
        }
        before.copyFrom(now);
        history.paused = true;
        script.rewind();
        int done = 0;
        int answer = 0;
        while (done < MOST_CHARACTERS && answer >= 0 && script.takeCommand()) {
            command = done;
            answer = perform();
            done++;
            script.takeSign(';');
        }
        command = NOTHING;
        history.paused = false;
        script.clear();
        if (answer < 0) {
            now.copyFrom(before);
            return answer == REFUSED ? REFUSED : BAD;
        }
        history.push(before);
        return done;
    }

    public int refusal(int what) {
        if (what < 0 || what > 2) {
            return BAD;
        }
        if (reason == 0) {
            return NOTHING;
        }
        if (what == 0) {
            return reason;
        }
        return what == 1 ? detail : refusedCommand;
    }

    public int account(int what) {
        switch (what) {
            case 0: return now.count;
            case 1: return now.countOfKind(STRIP);
            case 2: return now.countOfKind(CORNER);
            case 3: return now.foldedCount();
            case 4: return now.width;
            case 5: return now.width - now.occupied();
            case 6: return now.panelCount();
            case 7: return now.creasesOf(MOUNTAIN);
            case 8: return now.creasesOf(VALLEY);
            case 9: return now.creasesOf(UNDECIDED);
            case 10: return now.folds;
            case 11: return script.length;
            case 12: return history.count;
            default: return BAD;
        }
    }

    public int share() {
        int decided = now.creasesOf(MOUNTAIN) + now.creasesOf(VALLEY);
        int all = decided + now.creasesOf(UNDECIDED);
        if (all <= 0) {
            return NOTHING;
        }
        return bitsOf((float) decided / (float) all);
    }

    // ---- undo and snapshot

    public int undo() {
        if (history.count <= 0) {
            return NOTHING;
        }
        history.pop(now);
        return history.count;
    }

    public int save() {
        snapshot.copyFrom(now);
        hasSnapshot = true;
        return now.count;
    }

    public int restore() {
        if (!hasSnapshot) {
            return NOTHING;
        }
        now.copyFrom(snapshot);
        history.clear();
        return now.count;
    }

    // ---- what the calls have in common

    private int refuse(int newReason, int newDetail) {
        reason = newReason;
        detail = newDetail;
        refusedCommand = command;
        return REFUSED;
    }

    /** 0 if there is no error. */
    private static int errorOfDecidedStrip(Piece strip) {
        if (strip == null) {
            return NONE;
        }
        if (strip.kind != STRIP) {
            return BAD;
        }
        return strip.isUndecided() ? NOTHING : 0;
    }

    /** Carries out the command that was taken from the text last; returns what the call for it does. */
    private int perform() {
        switch (script.letter) {
            case 's': return withCreasesAsTold(add(STRIP, script.target, script.creases));
            case 'c': return withCreasesAsTold(add(CORNER, script.target, script.creases));
            case 'm': return mark(script.target, script.creases, script.sign);
            case 't': return turn(script.target);
            case 'f': return fold(script.target);
            case 'u': return unfold(script.target);
            case 'x': return drop(script.target);
            default: return BAD;
        }
    }

    /** A number of creases does not tell how many there are, as it can begin with 0; the text does. */
    private int withCreasesAsTold(int answer) {
        Piece added = now.pieceAt(answer);
        if (added == null) {
            return answer;
        }
        return added.creaseCount() == script.signCount ? answer : BAD;
    }

    private static boolean isCreaseKind(int kind) {
        return kind == UNDECIDED || kind == MOUNTAIN || kind == VALLEY;
    }

    /** The library at hand has no floatToIntBits; so this puts the bits of a number from 0 to 1 together. */
    private static int bitsOf(float value) {
        if (value <= 0) {
            return 0;
        }
        float significand = value;
        int exponent = 127;
        for (int i = 0; i < 126 && significand < 1; i++) {
            significand = significand * 2;
            exponent--;
        }
        return (exponent << 23) + (int) ((significand - 1) * 8388608);
    }

    // ---- rows of numbers: no index is used that is not in the row

    private static int at(int[] row, int index) {
        return index >= 0 && index < row.length ? row[index] : 0;
    }

    private static void put(int[] row, int index, int number) {
        if (index >= 0 && index < row.length) {
            row[index] = number;
        }
    }

    private static void copyRow(int[] from, int[] to) {
        for (int i = 0; i < from.length && i < to.length; i++) {
            to[i] = from[i];
        }
    }

    /** Takes one number out of a row: those behind it move up. */
    private static void takeOut(int[] row, int index) {
        for (int i = index; i >= 0 && i < row.length - 1; i++) {
            row[i] = row[i + 1];
        }
    }

    /** A strip or a corner. */
    private static final class Piece {
        private int kind;
        /** How many sizes it has. */
        private int count;
        private boolean folded;
        private final int[] sizes = new int[MOST_SIZES];
        private final int[] creases = new int[MOST_SIZES];

        /** Takes the digits of a number as sizes; returns whether they are as told for this kind. */
        private boolean takeSizes(int newKind, int number) {
            kind = newKind;
            folded = false;
            count = 0;
            int left = number;
            for (int i = 0; i < MOST_SIZES && left > 0; i++) {
                left = left / 10;
                count++;
            }
            if (left != 0) {
                return false;
            }
            left = number;
            for (int i = count - 1; i >= 0; i--) {
                if (left % 10 == 0) {
                    return false;
                }
                put(sizes, i, left % 10);
                left = left / 10;
            }
            if (kind == STRIP) {
                return count >= FEWEST_PANELS && count <= MOST_PANELS;
            }
            return (count == 4 || count == 6 || count == 8) && sum() == WHOLE_TURN;
        }

        /** Takes the digits of a number as creases; returns whether they are as told for the sizes. */
        private boolean takeCreases(int number) {
            boolean right = number >= 0;
            int left = number;
            for (int i = creaseCount() - 1; i >= 0; i--) {
                right = right && isCreaseKind(left % 10);
                put(creases, i, left % 10);
                left = left / 10;
            }
            return right && left == 0;
        }

        private void copyFrom(Piece other) {
            kind = other.kind;
            count = other.count;
            folded = other.folded;
            copyRow(other.sizes, sizes);
            copyRow(other.creases, creases);
        }

        private int creaseCount() {
            return kind == STRIP ? count - 1 : count;
        }

        private boolean hasCrease(int crease) {
            return crease >= 0 && crease < creaseCount();
        }

        private int countOf(int creaseKind) {
            int found = 0;
            for (int i = 0; i < creaseCount(); i++) {
                if (at(creases, i) == creaseKind) {
                    found++;
                }
            }
            return found;
        }

        private boolean isUndecided() {
            return countOf(UNDECIDED) > 0;
        }

        /** The lowest undecided crease, or the number of creases if there is none. */
        private int lowestUndecided() {
            int lowest = 0;
            for (int i = 0; i < creaseCount() && at(creases, i) != UNDECIDED; i++) {
                lowest = i + 1;
            }
            return lowest;
        }

        private int sum() {
            int sum = 0;
            for (int i = 0; i < count; i++) {
                sum += at(sizes, i);
            }
            return sum;
        }

        private int sizesAsNumber() {
            int number = 0;
            for (int i = 0; i < count; i++) {
                number = number * 10 + at(sizes, i);
            }
            return number;
        }

        private void turnOver() {
            for (int i = 0; i < creaseCount(); i++) {
                int old = at(creases, i);
                if (old != UNDECIDED) {
                    put(creases, i, old == MOUNTAIN ? VALLEY : MOUNTAIN);
                }
            }
        }

        /** Becomes the corner that was told, from one of its creases on. */
        private void becomeRotated(Piece corner, int crease) {
            for (int i = 0; i < count; i++) {
                int from = crease + i < count ? crease + i : crease + i - count;
                put(sizes, i, at(corner.sizes, from));
                put(creases, i, at(corner.creases, from));
            }
        }

        private void lengthenBy(Piece other, int creaseKind) {
            put(creases, count - 1, creaseKind);
            for (int i = 0; i < other.count; i++) {
                put(sizes, count + i, at(other.sizes, i));
                put(creases, count + i, at(other.creases, i));
            }
            count += other.count;
        }

        /** Becomes the part of a strip from a panel on. */
        private void becomeEndOf(Piece strip, int panel) {
            kind = STRIP;
            folded = false;
            count = strip.count - panel;
            for (int i = 0; i < count; i++) {
                put(sizes, i, at(strip.sizes, panel + i));
                put(creases, i, at(strip.creases, panel + i));
            }
        }

        /** Where a panel begins if the strip is folded: even panels go to the right, odd ones to the left. */
        private int placeOf(int panel) {
            int place = 0;
            for (int i = 0; i < panel && i < count; i++) {
                place += i % 2 == 0 ? at(sizes, i) : -at(sizes, i);
            }
            return place;
        }

        private int leftEndOf(int panel) {
            return Math.min(placeOf(panel), placeOf(panel + 1));
        }

        private int rightEndOf(int panel) {
            return Math.max(placeOf(panel), placeOf(panel + 1));
        }

        /** The width on the stage. */
        private int width() {
            if (kind == CORNER) {
                return greatestSize();
            }
            int leftmost = 0;
            int rightmost = 0;
            for (int i = 0; i < count; i++) {
                leftmost = Math.min(leftmost, placeOf(i + 1));
                rightmost = Math.max(rightmost, placeOf(i + 1));
            }
            return rightmost - leftmost;
        }

        private int greatestSize() {
            int greatest = 0;
            for (int i = 0; i < count; i++) {
                greatest = Math.max(greatest, at(sizes, i));
            }
            return greatest;
        }

        /** A strip is thickest just behind the left end of some panel, as only there panels begin. */
        private int thickness() {
            int most = 0;
            for (int i = 0; i < count; i++) {
                most = Math.max(most, panelsBehind(leftEndOf(i)));
            }
            return most;
        }

        private int panelsBehind(int place) {
            int found = 0;
            for (int i = 0; i < count; i++) {
                if (leftEndOf(i) <= place && place < rightEndOf(i)) {
                    found++;
                }
            }
            return found;
        }

        private int reflection() {
            int direction = 0;
            int crease = 0;
            for (int i = 0; i < count; i++) {
                direction = Math.floorMod(2 * crease - direction, WHOLE_TURN);
                crease += at(sizes, i);
            }
            return direction;
        }
    }

    /** What changes can change, and what undo and the snapshot hold. */
    private static final class State {
        private final Piece[] pieces = new Piece[MOST_PIECES];
        private int count;
        private int width = FIRST_WIDTH;
        private int folds;

        private State() {
            for (int i = 0; i < pieces.length; i++) {
                pieces[i] = new Piece();
            }
        }

        /** The piece of this number, or null if there is none. */
        private Piece pieceAt(int index) {
            return index >= 0 && index < count && index < pieces.length ? pieces[index] : null;
        }

        private void copyFrom(State other) {
            count = other.count;
            width = other.width;
            folds = other.folds;
            for (int i = 0; i < count; i++) {
                Piece mine = pieceAt(i);
                Piece theirs = other.pieceAt(i);
                if (mine != null && theirs != null) {
                    mine.copyFrom(theirs);
                }
            }
        }

        private void addCopyOf(Piece piece) {
            if (count >= pieces.length) {
                return;
            }
            count++;
            Piece last = pieceAt(count - 1);
            if (last != null) {
                last.copyFrom(piece);
            }
        }

        /** The piece that is gone is kept behind the others, for one that is added later. */
        private void removeAt(int index) {
            Piece gone = pieceAt(index);
            if (gone == null) {
                return;
            }
            int to = index;
            for (int i = index + 1; i > 0 && i < count && i < pieces.length; i++) {
                pieces[i - 1] = pieces[i];
                to = i;
            }
            if (to >= 0 && to < pieces.length) {
                pieces[to] = gone;
            }
            count--;
        }

        /** The width that the folded pieces take together. */
        private int occupied() {
            int sum = 0;
            for (int i = 0; i < count; i++) {
                Piece piece = pieceAt(i);
                if (piece != null && piece.folded) {
                    sum += piece.width();
                }
            }
            return sum;
        }

        private int countOfKind(int kind) {
            int found = 0;
            for (int i = 0; i < count; i++) {
                Piece piece = pieceAt(i);
                if (piece != null && piece.kind == kind) {
                    found++;
                }
            }
            return found;
        }

        private int foldedCount() {
            int found = 0;
            for (int i = 0; i < count; i++) {
                Piece piece = pieceAt(i);
                if (piece != null && piece.folded) {
                    found++;
                }
            }
            return found;
        }

        private int panelCount() {
            int sum = 0;
            for (int i = 0; i < count; i++) {
                Piece piece = pieceAt(i);
                if (piece != null && piece.kind == STRIP) {
                    sum += piece.count;
                }
            }
            return sum;
        }

        private int creasesOf(int creaseKind) {
            int sum = 0;
            for (int i = 0; i < count; i++) {
                Piece piece = pieceAt(i);
                if (piece != null) {
                    sum += piece.countOf(creaseKind);
                }
            }
            return sum;
        }
    }

    /** The states before the latest changes, in a ring, so that the oldest one is overwritten. */
    private static final class History {
        private final State[] states = new State[MOST_CHANGES];
        /** Where the next state goes. */
        private int next;
        private int count;
        /** While a text is carried out, as its commands are one change together. */
        private boolean paused;

        private History() {
            for (int i = 0; i < states.length; i++) {
                states[i] = new State();
            }
        }

        private void push(State state) {
            State kept = stateAt(next);
            if (kept != null && !paused) {
                kept.copyFrom(state);
                next = next < MOST_CHANGES - 1 ? next + 1 : 0;
                count = Math.min(count + 1, MOST_CHANGES);
            }
        }

        private void pop(State state) {
            next = next > 0 ? next - 1 : MOST_CHANGES - 1;
            count--;
            State kept = stateAt(next);
            if (kept != null) {
                state.copyFrom(kept);
            }
        }

        private void clear() {
            count = 0;
        }

        private State stateAt(int index) {
            return index >= 0 && index < states.length ? states[index] : null;
        }
    }

    /** Reduces a copy of a piece, step by step. */
    private static final class Reducer {
        private int kind;
        private int count;
        private final int[] sizes = new int[MOST_SIZES];
        /** The crease ahead of each size, so that strips and corners are crimped alike; a strip's first one is free. */
        private final int[] creases = new int[MOST_SIZES];

        private void load(Piece piece) {
            kind = piece.kind;
            count = piece.count;
            copyRow(piece.sizes, sizes);
            for (int i = 0; i < piece.creaseCount(); i++) {
                putCrease(i, at(piece.creases, i));
            }
        }

        private void putCrease(int crease, int creaseKind) {
            put(creases, kind == STRIP ? crease + 1 : crease, creaseKind);
        }

        private int whatStandsInTheWay(Piece piece) {
            if (piece.isUndecided()) {
                return UNDECIDED_IN_THE_WAY;
            }
            load(piece);
            if (kind == CORNER) {
                if (evenAngles() != WHOLE_TURN / 2) {
                    return EVEN_ANGLES_IN_THE_WAY;
                }
                if (Math.abs(piece.countOf(MOUNTAIN) - piece.countOf(VALLEY)) != 2) {
                    return KINDS_IN_THE_WAY;
                }
                if (hasSmallAngleOfOneKind()) {
                    return SMALL_ANGLE_IN_THE_WAY;
                }
            }
            reduce();
            return isReduced() ? CLEAR : REDUCING_IN_THE_WAY;
        }

        private int evenAngles() {
            int sum = 0;
            for (int i = 0; i < count; i += 2) {
                sum += at(sizes, i);
            }
            return sum;
        }

        private boolean hasSmallAngleOfOneKind() {
            for (int i = 0; i < count; i++) {
                int angle = at(sizes, i);
                boolean small = angle < at(sizes, before(i)) && angle < at(sizes, after(i));
                if (small && at(creases, i) == at(creases, after(i))) {
                    return true;
                }
            }
            return false;
        }

        /** In how many ways the undecided creases can be decided so that the piece folds. */
        private int countWays(Piece piece) {
            int found = 0;
            for (int valleys = 0; valleys < 1 << piece.creaseCount(); valleys++) {
                if (changesTo(piece, valleys) == 0 && foldsWith(piece, valleys)) {
                    found++;
                }
            }
            return found;
        }

        private int fewestChanges(Piece piece) {
            int fewest = NOTHING;
            for (int valleys = 0; valleys < 1 << piece.creaseCount(); valleys++) {
                int changes = changesTo(piece, valleys);
                if ((fewest == NOTHING || changes < fewest) && foldsWith(piece, valleys)) {
                    fewest = changes;
                }
            }
            return fewest;
        }

        /** How many decided creases become the other kind, if the bits of a number tell the valleys. */
        private static int changesTo(Piece piece, int valleys) {
            int changes = 0;
            for (int i = 0; i < piece.creaseCount(); i++) {
                int old = at(piece.creases, i);
                if (old != UNDECIDED && old != kindIn(valleys, i)) {
                    changes++;
                }
            }
            return changes;
        }

        private boolean foldsWith(Piece piece, int valleys) {
            load(piece);
            for (int i = 0; i < piece.creaseCount(); i++) {
                putCrease(i, kindIn(valleys, i));
            }
            reduce();
            return isReduced();
        }

        private static int kindIn(int valleys, int crease) {
            return (valleys >> crease & 1) == 0 ? MOUNTAIN : VALLEY;
        }

        private boolean isReduced() {
            if (kind == STRIP) {
                return count == 1;
            }
            return count == 2 && at(sizes, 0) == at(sizes, 1) && at(creases, 0) == at(creases, 1);
        }

        /** Makes all steps; returns how many. Each takes a size away, so that there are fewer than sizes. */
        private int reduce() {
            int made = 0;
            int step = firstStep();
            while (made < MOST_SIZES && step != NO_STEP) {
                make(step);
                made++;
                step = firstStep();
            }
            return made;
        }

        private int firstStep() {
            boolean strip = kind == STRIP;
            if (count < 2 || count == 2 && !strip) {
                return NO_STEP;
            }
            if (strip && at(sizes, 0) <= at(sizes, 1)) {
                return FIRST_PANEL_STEP;
            }
            if (strip && at(sizes, count - 1) <= at(sizes, count - 2)) {
                return LAST_PANEL_STEP;
            }
            int margin = strip ? 1 : 0;
            for (int i = margin; i < count - margin; i++) {
                boolean small = at(sizes, i) <= at(sizes, before(i)) && at(sizes, i) <= at(sizes, after(i));
                if (small && at(creases, i) != at(creases, after(i))) {
                    return CRIMP_STEP + i;
                }
            }
            return NO_STEP;
        }

        private void make(int step) {
            if (step == LAST_PANEL_STEP) {
                count--;
                return;
            }
            if (step == FIRST_PANEL_STEP) {
                takeOut(sizes, 0);
                takeOut(creases, 0);
                count--;
                return;
            }
            int index = step - CRIMP_STEP;
            int left = before(index);
            int right = after(index);
            put(sizes, left, at(sizes, left) + at(sizes, right) - at(sizes, index));
            // The one behind goes first, as the other one's index stays then.
            takeOut(sizes, Math.max(index, right));
            takeOut(sizes, Math.min(index, right));
            takeOut(creases, Math.max(index, right));
            takeOut(creases, Math.min(index, right));
            count -= 2;
        }

        private int before(int index) {
            return index > 0 ? index - 1 : count - 1;
        }

        private int after(int index) {
            return index < count - 1 ? index + 1 : 0;
        }
    }

    /** Searches the possible orders of the layers of a strip. */
    private static final class Layers {
        private int count;
        private final int[] order = new int[MOST_SIZES];
        private final int[] places = new int[MOST_SIZES];
        private final int[] creases = new int[MOST_SIZES];

        /**
         * Counts possible orders, the first ones first, up to a limit that is 1 or more. If it is reached, the order
         * that was found last stands in the row.
         */
        private int search(Piece strip, int limit) {
            load(strip);
            int found = 0;
            int panel = 0;
            put(order, 0, -1);
            for (int i = 0; i < MOST_TURNS && panel >= 0; i++) {
                int layer = panel < count ? nextLayer(panel) : -1;
                if (layer >= 0) {
                    put(order, panel, layer);
                    panel++;
                    put(order, panel, -1);
                    continue;
                }
                if (panel == count && !layersCollide()) {
                    found++;
                    if (found >= limit) {
                        return found;
                    }
                }
                panel--;
            }
            return found;
        }

        private void load(Piece strip) {
            count = Math.min(strip.count, MOST_PANELS);
            copyRow(strip.creases, creases);
            for (int i = 0; i <= count; i++) {
                put(places, i, strip.placeOf(i));
            }
        }

        /** The next layer for a panel that no earlier panel has and that its crease allows, or -1. */
        private int nextLayer(int panel) {
            for (int layer = at(order, panel) + 1; layer < count; layer++) {
                if (isFree(layer, panel) && isAsCreased(layer, panel)) {
                    return layer;
                }
            }
            return -1;
        }

        private boolean isFree(int layer, int panel) {
            for (int i = 0; i < panel; i++) {
                if (at(order, i) == layer) {
                    return false;
                }
            }
            return true;
        }

        private boolean isAsCreased(int layer, int panel) {
            if (panel == 0) {
                return true;
            }
            boolean faceUp = (panel - 1) % 2 == 0;
            boolean valley = at(creases, panel - 1) == VALLEY;
            boolean above = layer > at(order, panel - 1);
            return above == (faceUp == valley);
        }

        private boolean layersCollide() {
            for (int crease = 0; crease < count - 1; crease++) {
                if (isPierced(crease) || isCrossed(crease)) {
                    return true;
                }
            }
            return false;
        }

        /** Whether a panel that reaches over the place of a crease lies between its panels. */
        private boolean isPierced(int crease) {
            int place = at(places, crease + 1);
            for (int i = 0; i < count; i++) {
                int left = Math.min(at(places, i), at(places, i + 1));
                int right = Math.max(at(places, i), at(places, i + 1));
                if (left < place && place < right && isBetween(i, crease)) {
                    return true;
                }
            }
            return false;
        }

        /** Creases that lie at the same end of their panels are every second ones. */
        private boolean isCrossed(int crease) {
            for (int i = crease + 2; i < count - 1; i += 2) {
                boolean samePlace = at(places, i + 1) == at(places, crease + 1);
                if (samePlace && isBetween(i, crease) != isBetween(i + 1, crease)) {
                    return true;
                }
            }
            return false;
        }

        private boolean isBetween(int panel, int crease) {
            int layer = at(order, panel);
            int one = at(order, crease);
            int other = at(order, crease + 1);
            return Math.min(one, other) < layer && layer < Math.max(one, other);
        }
    }

    /** The text of commands. */
    private static final class Script {
        private final int[] codes = new int[MOST_CHARACTERS];
        private int length;
        private int position;
        /** The command that was taken last. */
        private int letter;
        /** Its sizes or its piece. */
        private int target;
        /** Its creases or its crease. */
        private int creases;
        private int signCount;
        private int sign;

        private void write(int code) {
            put(codes, length, code);
            length++;
        }

        private void clear() {
            length = 0;
        }

        private void rewind() {
            position = 0;
        }

        /** The fault position, or NOTHING if the text is right. */
        private int faultPosition() {
            rewind();
            for (int i = 0; i < MOST_CHARACTERS && takeCommand(); i++) {
                if (position == length) {
                    return NOTHING;
                }
                if (!takeSign(';')) {
                    return position;
                }
            }
            return position;
        }

        /** Takes a command; if there is none, the position stays at the character that does not fit. */
        private boolean takeCommand() {
            letter = codeHere();
            switch (letter) {
                case 's':
                case 'c':
                    position++;
                    return takeSizes() && takeSign(':') && takeCreases();
                case 'm':
                    position++;
                    return takePiece() && takeSign('.') && takeCrease() && takeSign('=') && takeKind();
                case 't':
                case 'f':
                case 'u':
                case 'x':
                    position++;
                    return takePiece();
                default:
                    return false;
            }
        }

        /** The character at the position, or 0 at the end. */
        private int codeHere() {
            return position < length ? at(codes, position) : 0;
        }

        private boolean takeSign(char wanted) {
            if (codeHere() != wanted) {
                return false;
            }
            position++;
            return true;
        }

        private boolean takeSizes() {
            target = 0;
            for (int i = 0; i < MOST_SIZES && codeHere() >= '1' && codeHere() <= '9'; i++) {
                target = target * 10 + codeHere() - '0';
                position++;
            }
            return target > 0;
        }

        private boolean takeCreases() {
            creases = 0;
            signCount = 0;
            for (int i = 0; i < MOST_SIZES && takeKind(); i++) {
                creases = creases * 10 + sign;
                signCount++;
            }
            return signCount > 0;
        }

        private boolean takeKind() {
            int code = codeHere();
            if (code != 'o' && code != 'm' && code != 'v') {
                return false;
            }
            sign = code == 'o' ? UNDECIDED : code == 'm' ? MOUNTAIN : VALLEY;
            position++;
            return true;
        }

        private boolean takePiece() {
            target = codeHere() - '0';
            return takeDigit();
        }

        private boolean takeCrease() {
            creases = codeHere() - '0';
            return takeDigit();
        }

        private boolean takeDigit() {
            if (codeHere() < '0' || codeHere() > '9') {
                return false;
            }
            position++;
            return true;
        }
    }
}
