import java.util.ArrayDeque;
import java.util.ArrayList;
import java.util.Deque;
import java.util.HashMap;
import java.util.List;
import java.util.Map;
import java.util.regex.Matcher;
import java.util.regex.Pattern;

/** A second theatre, written from the document by other means: texts, lists and trials of everything. */
final class Model {
    static final int NONE = -1001;
    static final int BAD = -1002;
    static final int REFUSED = -1003;
    static final int NOTHING = -1004;

    /** Creases are signs: o, m, v. */
    record Piece(boolean corner, String sizes, String creases, boolean folded) {
        int count() {
            return sizes.length();
        }

        int size(int i) {
            return sizes.charAt(i) - '0';
        }

        long of(char sign) {
            return creases.chars().filter(c -> c == sign).count();
        }

        boolean decided() {
            return creases.indexOf('o') < 0;
        }

        int sum() {
            return sizes.chars().map(c -> c - '0').sum();
        }

        Piece with(String newCreases) {
            return new Piece(corner, sizes, newCreases, folded);
        }

        Piece with(boolean newFolded) {
            return new Piece(corner, sizes, creases, newFolded);
        }

        int width() {
            if (corner) {
                return sizes.chars().map(c -> c - '0').max().getAsInt();
            }
            int most = 0;
            for (int i = 0; i <= count(); i++) {
                for (int j = 0; j <= count(); j++) {
                    most = Math.max(most, Shapes.place(sizes, i) - Shapes.place(sizes, j));
                }
            }
            return most;
        }
    }

    record State(List<Piece> pieces, int width, int folds) {
    }

    private static final String COMMAND = "(?:[sc][1-9]{1,8}:[mvo]{1,8}|m[0-9][.][0-9]=[mvo]|[tfux][0-9])";
    private static final Pattern TEXT = Pattern.compile(COMMAND + "(?:;" + COMMAND + ")*");

    private List<Piece> pieces = new ArrayList<>();
    private int width = 30;
    private int folds = 0;
    private final Deque<State> history = new ArrayDeque<>();
    private State snapshot = null;
    private String text = "";
    private int[] refused = null;
    private int command = NOTHING;

    private State state() {
        return new State(new ArrayList<>(pieces), width, folds);
    }

    private void set(State state) {
        pieces = new ArrayList<>(state.pieces());
        width = state.width();
        folds = state.folds();
    }

    private void push(State state) {
        history.addLast(state);
        if (history.size() > 8) {
            history.removeFirst();
        }
    }

    private void change() {
        if (command == NOTHING) {
            push(state());
        }
    }

    private int refuse(int reason, int detail) {
        refused = new int[] {reason, detail, command};
        return REFUSED;
    }

    private boolean none(int piece) {
        return piece < 0 || piece >= pieces.size();
    }

    private boolean none(int piece, int crease) {
        return none(piece) || crease < 0 || crease >= pieces.get(piece).creases().length();
    }

    private int occupied() {
        return pieces.stream().filter(Piece::folded).mapToInt(Piece::width).sum();
    }

    int stage(int newWidth) {
        if (newWidth < 1 || newWidth > 99) {
            return BAD;
        }
        if (occupied() > newWidth) {
            return refuse(7, occupied() - newWidth);
        }
        change();
        int old = width;
        width = newWidth;
        return old;
    }

    int add(int kind, int sizes, int creases) {
        if (kind != 0 && kind != 1 || sizes < 0 || creases < 0) {
            return BAD;
        }
        String s = Integer.toString(sizes);
        boolean right = s.matches(kind == 0 ? "[1-9]{2,7}" : "[1-9]{4}|[1-9]{6}|[1-9]{8}");
        if (!right || kind == 1 && s.chars().map(c -> c - '0').sum() != 24) {
            return BAD;
        }
        int count = kind == 0 ? s.length() - 1 : s.length();
        String c = Integer.toString(creases);
        if (c.length() > count || !c.matches("[012]*")) {
            return BAD;
        }
        if (pieces.size() == 8) {
            return refuse(1, 8);
        }
        change();
        String signs = ("0".repeat(count - c.length()) + c).replace('0', 'o').replace('1', 'm').replace('2', 'v');
        pieces.add(new Piece(kind == 1, s, signs, false));
        return pieces.size() - 1;
    }

    int mark(int piece, int crease, int kind) {
        if (none(piece, crease)) {
            return NONE;
        }
        if (kind < 0 || kind > 2) {
            return BAD;
        }
        Piece p = pieces.get(piece);
        if (p.folded()) {
            return refuse(2, piece);
        }
        change();
        StringBuilder signs = new StringBuilder(p.creases());
        signs.setCharAt(crease, "omv".charAt(kind));
        pieces.set(piece, p.with(signs.toString()));
        return "omv".indexOf(p.creases().charAt(crease));
    }

    int turn(int piece) {
        if (none(piece)) {
            return NONE;
        }
        Piece p = pieces.get(piece);
        if (p.folded()) {
            return refuse(2, piece);
        }
        change();
        pieces.set(piece, p.with(p.creases().replace('m', '?').replace('v', 'm').replace('?', 'v')));
        return (int) (p.of('m') + p.of('v'));
    }

    int rotate(int piece, int crease) {
        if (none(piece, crease)) {
            return NONE;
        }
        Piece p = pieces.get(piece);
        if (p.folded()) {
            return refuse(2, piece);
        }
        if (!p.corner()) {
            return refuse(3, piece);
        }
        change();
        String sizes = p.sizes().substring(crease) + p.sizes().substring(0, crease);
        String creases = p.creases().substring(crease) + p.creases().substring(0, crease);
        pieces.set(piece, new Piece(true, sizes, creases, false));
        return Integer.parseInt(sizes);
    }

    int join(int piece, int other, int kind) {
        if (none(piece) || none(other) || piece == other) {
            return NONE;
        }
        if (kind < 0 || kind > 2) {
            return BAD;
        }
        Piece p = pieces.get(piece);
        Piece q = pieces.get(other);
        if (p.folded()) {
            return refuse(2, piece);
        }
        if (q.folded()) {
            return refuse(2, other);
        }
        if (p.corner()) {
            return refuse(3, piece);
        }
        if (q.corner()) {
            return refuse(3, other);
        }
        if (p.count() + q.count() > 7) {
            return refuse(6, p.count() + q.count());
        }
        change();
        String creases = p.creases() + "omv".charAt(kind) + q.creases();
        pieces.set(piece, new Piece(false, p.sizes() + q.sizes(), creases, false));
        pieces.remove(other);
        return p.count() + q.count();
    }

    int cut(int piece, int crease) {
        if (none(piece, crease)) {
            return NONE;
        }
        Piece p = pieces.get(piece);
        if (pieces.size() == 8) {
            return refuse(1, 8);
        }
        if (p.folded()) {
            return refuse(2, piece);
        }
        if (p.corner()) {
            return refuse(3, piece);
        }
        if (crease == 0 || crease == p.creases().length() - 1) {
            return refuse(6, 1);
        }
        change();
        String left = p.sizes().substring(0, crease + 1);
        String right = p.sizes().substring(crease + 1);
        pieces.set(piece, new Piece(false, left, p.creases().substring(0, crease), false));
        pieces.add(new Piece(false, right, p.creases().substring(crease + 1), false));
        return pieces.size() - 1;
    }

    int fold(int piece) {
        if (none(piece)) {
            return NONE;
        }
        Piece p = pieces.get(piece);
        if (p.folded()) {
            return refuse(2, piece);
        }
        if (!p.decided()) {
            return refuse(4, p.creases().indexOf('o'));
        }
        if (why(piece) != 0) {
            return refuse(5, why(piece));
        }
        if (occupied() + p.width() > width) {
            return refuse(7, occupied() + p.width() - width);
        }
        change();
        pieces.set(piece, p.with(true));
        folds++;
        return p.width();
    }

    int unfold(int piece) {
        if (none(piece)) {
            return NONE;
        }
        if (!pieces.get(piece).folded()) {
            return refuse(2, piece);
        }
        change();
        pieces.set(piece, pieces.get(piece).with(false));
        return width - occupied();
    }

    int drop(int piece) {
        if (none(piece)) {
            return NONE;
        }
        change();
        pieces.remove(piece);
        return pieces.size();
    }

    int piece(int piece, int what) {
        if (none(piece)) {
            return NONE;
        }
        if (what < 0 || what > 8) {
            return BAD;
        }
        Piece p = pieces.get(piece);
        long[] all = {p.corner() ? 1 : 0, p.count(), p.creases().length(), p.of('m'), p.of('v'), p.of('o'), p.sum(),
            p.folded() ? 1 : 0, p.width()};
        return (int) all[what];
    }

    int size(int piece, int index) {
        return none(piece) || index < 0 || index >= pieces.get(piece).count() ? NONE : pieces.get(piece).size(index);
    }

    int crease(int piece, int crease) {
        return none(piece, crease) ? NONE : "omv".indexOf(pieces.get(piece).creases().charAt(crease));
    }

    int why(int piece) {
        return none(piece) ? NONE : Shapes.why(pieces.get(piece));
    }

    int foldsAgain(int piece) {
        return orders(piece) > 0 ? 1 : orders(piece);
    }

    int step(int piece) {
        if (none(piece)) {
            return NONE;
        }
        Piece p = pieces.get(piece);
        List<Integer> steps = p.decided() ? Shapes.steps(p) : List.of();
        return steps.isEmpty() ? NOTHING : steps.get(0);
    }

    int steps(int piece) {
        if (none(piece)) {
            return NONE;
        }
        Piece p = pieces.get(piece);
        return p.decided() ? Shapes.steps(p).size() : NOTHING;
    }

    int ways(int piece) {
        if (none(piece)) {
            return NONE;
        }
        String old = pieces.get(piece).creases();
        return (int) Shapes.folding(pieces.get(piece)).stream().filter(c -> Shapes.changes(old, c) == 0).count();
    }

    int fewest(int piece) {
        if (none(piece)) {
            return NONE;
        }
        String old = pieces.get(piece).creases();
        return Shapes.folding(pieces.get(piece)).stream().mapToInt(c -> Shapes.changes(old, c)).min().orElse(NOTHING);
    }

    int place(int piece, int panel) {
        if (none(piece)) {
            return NONE;
        }
        Piece p = pieces.get(piece);
        if (p.corner()) {
            return BAD;
        }
        return panel < 0 || panel > p.count() ? NONE : Shapes.place(p.sizes(), panel);
    }

    int layer(int piece, int panel) {
        if (none(piece)) {
            return NONE;
        }
        Piece p = pieces.get(piece);
        if (p.corner()) {
            return BAD;
        }
        if (panel < 0 || panel >= p.count()) {
            return NONE;
        }
        if (!p.decided() || Shapes.orders(p).isEmpty()) {
            return NOTHING;
        }
        return Shapes.orders(p).get(0).charAt(panel) - '0';
    }

    int orders(int piece) {
        if (none(piece)) {
            return NONE;
        }
        Piece p = pieces.get(piece);
        if (p.corner()) {
            return BAD;
        }
        return p.decided() ? Shapes.orders(p).size() : NOTHING;
    }

    int thickest(int piece) {
        if (none(piece)) {
            return NONE;
        }
        return pieces.get(piece).corner() ? BAD : Shapes.thickest(pieces.get(piece).sizes());
    }

    int reflected(int piece) {
        if (none(piece)) {
            return NONE;
        }
        Piece p = pieces.get(piece);
        if (!p.corner()) {
            return BAD;
        }
        // As each reflection changes the sign, the direction is an alternating sum of the creases, twice.
        int direction = 0;
        int at = p.sum();
        for (int k = p.count() - 1; k >= 0; k--) {
            at -= p.size(k);
            direction += k % 2 == 1 ? 2 * at : -2 * at;
        }
        return (direction % 24 + 24) % 24;
    }

    int append(int code) {
        if (code < 32 || code > 126 || text.length() == 80) {
            return BAD;
        }
        text += (char) code;
        return text.length();
    }

    static int faultPosition(String text) {
        for (int i = 1; i <= text.length(); i++) {
            Matcher matcher = TEXT.matcher(text.substring(0, i));
            if (!matcher.matches() && !matcher.hitEnd()) {
                return i - 1;
            }
        }
        return TEXT.matcher(text).matches() ? -1 : text.length();
    }

    int read() {
        String read = text;
        text = "";
        int fault = faultPosition(read);
        if (fault >= 0) {
            return -2000 - fault;
        }
        State old = state();
        String[] commands = read.split(";");
        for (int i = 0; i < commands.length; i++) {
            command = i;
            int answer = perform(commands[i]);
            if (answer < 0) {
                command = NOTHING;
                set(old);
                return answer == REFUSED ? REFUSED : BAD;
            }
        }
        command = NOTHING;
        push(old);
        return commands.length;
    }

    private int perform(String c) {
        if (c.startsWith("s") || c.startsWith("c")) {
            String signs = c.substring(c.indexOf(':') + 1);
            String sizes = c.substring(1, c.indexOf(':'));
            String digits = signs.replace('o', '0').replace('m', '1').replace('v', '2');
            int kind = c.startsWith("s") ? 0 : 1;
            int answer = add(kind, Integer.parseInt(sizes), Integer.parseInt(digits));
            return answer >= 0 && pieces.get(answer).creases().length() != signs.length() ? BAD : answer;
        }
        int piece = c.charAt(1) - '0';
        return switch (c.charAt(0)) {
            case 'm' -> mark(piece, c.charAt(3) - '0', "omv".indexOf(c.charAt(5)));
            case 't' -> turn(piece);
            case 'f' -> fold(piece);
            case 'u' -> unfold(piece);
            default -> drop(piece);
        };
    }

    int refusal(int what) {
        return what < 0 || what > 2 ? BAD : refused == null ? NOTHING : refused[what];
    }

    int account(int what) {
        if (what < 0 || what > 12) {
            return BAD;
        }
        long corners = pieces.stream().filter(Piece::corner).count();
        long[] all = {pieces.size(), pieces.size() - corners, corners, pieces.stream().filter(Piece::folded).count(),
            width, width - occupied(), pieces.stream().filter(p -> !p.corner()).mapToInt(Piece::count).sum(),
            signs('m'), signs('v'), signs('o'), folds, text.length(), history.size()};
        return (int) all[what];
    }

    private long signs(char sign) {
        return pieces.stream().mapToLong(p -> p.of(sign)).sum();
    }

    int share() {
        long decided = signs('m') + signs('v');
        return pieces.isEmpty() ? NOTHING : Float.floatToIntBits((float) decided / (float) (decided + signs('o')));
    }

    int undo() {
        if (history.isEmpty()) {
            return NOTHING;
        }
        set(history.removeLast());
        return history.size();
    }

    int save() {
        snapshot = state();
        return pieces.size();
    }

    int restore() {
        if (snapshot == null) {
            return NOTHING;
        }
        set(snapshot);
        history.clear();
        return pieces.size();
    }

    /** What the document says of folding, by trials; answers are kept, as pieces come again. */
    static final class Shapes {
        private static final Map<String, List<String>> ORDERS = new HashMap<>();
        private static final Map<String, List<String>> FOLDING = new HashMap<>();

        private Shapes() {
        }

        static int place(String sizes, int panel) {
            int place = 0;
            int way = 1;
            for (char c : sizes.substring(0, panel).toCharArray()) {
                place += way * (c - '0');
                way = -way;
            }
            return place;
        }

        static int thickest(String sizes) {
            int most = 0;
            for (double x = -70.5; x < 71; x++) {
                int here = 0;
                for (int i = 0; i < sizes.length(); i++) {
                    if ((place(sizes, i) - x) * (place(sizes, i + 1) - x) < 0) {
                        here++;
                    }
                }
                most = Math.max(most, here);
            }
            return most;
        }

        /** All steps of a decided piece until it cannot be reduced any more. */
        static List<Integer> steps(Piece p) {
            List<Integer> steps = new ArrayList<>();
            reduce(p, steps);
            return steps;
        }

        static boolean folds(Piece p) {
            return reduce(p, new ArrayList<>());
        }

        private static boolean reduce(Piece p, List<Integer> steps) {
            List<Integer> sizes = new ArrayList<>();
            List<Character> creases = new ArrayList<>();
            p.sizes().chars().forEach(c -> sizes.add(c - '0'));
            p.creases().chars().forEach(c -> creases.add((char) c));
            return p.corner() ? reduceCorner(sizes, creases, steps) : reduceStrip(sizes, creases, steps);
        }

        private static boolean reduceStrip(List<Integer> sizes, List<Character> creases, List<Integer> steps) {
            int last = sizes.size() - 1;
            if (last == 0) {
                return true;
            }
            if (sizes.get(0) <= sizes.get(1)) {
                steps.add(1);
                sizes.remove(0);
                creases.remove(0);
                return reduceStrip(sizes, creases, steps);
            }
            if (sizes.get(last) <= sizes.get(last - 1)) {
                steps.add(2);
                sizes.remove(last);
                creases.remove(last - 1);
                return reduceStrip(sizes, creases, steps);
            }
            for (int i = 1; i < last; i++) {
                int a = sizes.get(i - 1);
                int b = sizes.get(i);
                int c = sizes.get(i + 1);
                if (b <= a && b <= c && !creases.get(i - 1).equals(creases.get(i))) {
                    steps.add(10 + i);
                    List<Integer> newSizes = new ArrayList<>(sizes.subList(0, i - 1));
                    newSizes.add(a + c - b);
                    newSizes.addAll(sizes.subList(i + 2, last + 1));
                    List<Character> newCreases = new ArrayList<>(creases.subList(0, i - 1));
                    newCreases.addAll(creases.subList(i + 1, last));
                    return reduceStrip(newSizes, newCreases, steps);
                }
            }
            return false;
        }

        private static boolean reduceCorner(List<Integer> sizes, List<Character> creases, List<Integer> steps) {
            int n = sizes.size();
            if (n == 2) {
                return sizes.get(0).equals(sizes.get(1)) && creases.get(0).equals(creases.get(1));
            }
            for (int k = 0; k < n; k++) {
                int a = sizes.get((k + n - 1) % n);
                int b = sizes.get(k);
                int c = sizes.get((k + 1) % n);
                if (b <= a && b <= c && !creases.get(k).equals(creases.get((k + 1) % n))) {
                    steps.add(10 + k);
                    List<Integer> newSizes = new ArrayList<>();
                    List<Character> newCreases = new ArrayList<>();
                    for (int i = 0; i < n; i++) {
                        if (i != k && i != (k + 1) % n) {
                            newCreases.add(creases.get(i));
                            newSizes.add(i == (k + n - 1) % n ? a + c - b : sizes.get(i));
                        }
                    }
                    return reduceCorner(newSizes, newCreases, steps);
                }
            }
            return false;
        }

        static int why(Piece p) {
            if (!p.decided()) {
                return 4;
            }
            if (!p.corner()) {
                return folds(p) ? 0 : 5;
            }
            int even = 0;
            for (int i = 0; i < p.count(); i += 2) {
                even += p.size(i);
            }
            if (even != 12) {
                return 1;
            }
            if (p.of('m') != p.of('v') + 2 && p.of('v') != p.of('m') + 2) {
                return 2;
            }
            // The corner is told three times over, so that none of its angles in the middle is at an end.
            String s = p.sizes() + p.sizes() + p.sizes();
            String c = p.creases() + p.creases() + p.creases();
            for (int i = p.count(); i < 2 * p.count(); i++) {
                boolean less = s.charAt(i) < s.charAt(i - 1) && s.charAt(i) < s.charAt(i + 1);
                if (less && c.charAt(i) == c.charAt(i + 1)) {
                    return 3;
                }
            }
            return folds(p) ? 0 : 5;
        }

        /** All decided creases with which sizes fold. */
        static List<String> folding(Piece p) {
            return FOLDING.computeIfAbsent((p.corner() ? "c" : "s") + p.sizes(), key -> {
                List<String> all = new ArrayList<>();
                for (String creases : decided(p.creases().length())) {
                    if (folds(p.with(creases))) {
                        all.add(creases);
                    }
                }
                return all;
            });
        }

        static List<String> decided(int count) {
            List<String> all = new ArrayList<>(List.of(""));
            for (int i = 0; i < count; i++) {
                List<String> longer = new ArrayList<>();
                all.forEach(c -> longer.add(c + "m"));
                all.forEach(c -> longer.add(c + "v"));
                all = longer;
            }
            return all;
        }

        static int changes(String old, String creases) {
            int changes = 0;
            for (int i = 0; i < old.length(); i++) {
                if (old.charAt(i) != 'o' && old.charAt(i) != creases.charAt(i)) {
                    changes++;
                }
            }
            return changes;
        }

        /** The possible orders of a decided strip, each as the digits of its layers, the first one first. */
        static List<String> orders(Piece p) {
            return ORDERS.computeIfAbsent(p.sizes() + p.creases(), key -> {
                List<String> all = new ArrayList<>();
                order(p, "", all);
                return all;
            });
        }

        private static void order(Piece p, String layers, List<String> all) {
            if (layers.length() == p.count()) {
                if (asCreased(p, layers) && !collide(p, layers)) {
                    all.add(layers);
                }
                return;
            }
            for (int i = 0; i < p.count(); i++) {
                char layer = (char) ('0' + i);
                if (layers.indexOf(layer) < 0) {
                    order(p, layers + layer, all);
                }
            }
        }

        private static boolean asCreased(Piece p, String layers) {
            boolean up = true;
            for (int i = 0; i < p.creases().length(); i++) {
                boolean above = layers.charAt(i + 1) > layers.charAt(i);
                boolean due = p.creases().charAt(i) == 'v' ? up : !up;
                if (above != due) {
                    return false;
                }
                up = !up;
            }
            return true;
        }

        private static boolean collide(Piece p, String layers) {
            int n = p.creases().length();
            for (int k = 0; k < n; k++) {
                int at = place(p.sizes(), k + 1);
                for (int j = 0; j < p.count(); j++) {
                    boolean over = (place(p.sizes(), j) - at) * (place(p.sizes(), j + 1) - at) < 0;
                    if (over && between(layers, j, k)) {
                        return true;
                    }
                }
                for (int l = 0; l < n; l++) {
                    boolean bothRight = k % 2 == 0 && l % 2 == 0;
                    boolean bothLeft = k % 2 == 1 && l % 2 == 1;
                    if (l != k && (bothRight || bothLeft) && place(p.sizes(), l + 1) == at
                        && between(layers, l, k) != between(layers, l + 1, k)) {
                        return true;
                    }
                }
            }
            return false;
        }

        private static boolean between(String layers, int panel, int crease) {
            char a = layers.charAt(crease);
            char b = layers.charAt(crease + 1);
            char c = layers.charAt(panel);
            return a < c && c < b || b < c && c < a;
        }
    }
}
