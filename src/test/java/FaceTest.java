import java.io.IOException;
import java.io.UncheckedIOException;
import java.lang.reflect.Field;
import java.lang.reflect.Method;
import java.lang.reflect.Modifier;
import java.nio.file.Files;
import java.nio.file.Path;
import java.util.Arrays;
import java.util.List;
import java.util.Set;
import java.util.TreeSet;
import java.util.regex.Matcher;
import java.util.regex.Pattern;

/** The public face, and those rules of LANGUAGE.md that can be looked up quickly. */
public final class FaceTest {
    private static final Set<String> FACE = new TreeSet<>(List.of("stage 1", "add 3", "mark 3", "turn 1", "rotate 2",
        "join 3", "cut 2", "fold 1", "unfold 1", "drop 1", "piece 2", "size 2", "crease 2", "why 1", "foldsAgain 1",
        "step 1", "steps 1", "ways 1", "fewest 1", "place 2", "layer 2", "orders 1", "thickest 1", "reflected 1",
        "append 1", "read 0", "refusal 1", "account 1", "share 0", "undo 0", "save 0", "restore 0"));
    private static final List<String> FORBIDDEN = List.of("import ", "package ", "->", "::", "finally", "synchronized",
        "assert ", "catch", "throw", "Exact(", "System.", "Thread", "Random", "var ", "\" +", "+ \"", "lambda");

    /** What the interface says ahead of which calls. */
    private static final String[] PARTS = {
        "pieces: stage add mark turn rotate join cut fold unfold drop piece size crease",
        "folding: why foldsAgain step steps ways fewest",
        "places, layers, reflections: place layer orders thickest reflected",
        "texts, accounts: append read refusal account share",
        "undo and snapshot: undo save restore"};

    private FaceTest() {
    }

    private static void constants() {
        Due.due("NONE", FoldedTheatre.NONE, -1001);
        Due.due("BAD", FoldedTheatre.BAD, -1002);
        Due.due("REFUSED", FoldedTheatre.REFUSED, -1003);
        Due.due("NOTHING", FoldedTheatre.NOTHING, -1004);
    }

    private static void members() {
        Class<?> theatre = FoldedTheatre.class;
        Due.due("public final class", theatre.getModifiers(), Modifier.PUBLIC | Modifier.FINAL);
        Due.due("constructors", theatre.getDeclaredConstructors().length, 1);
        Due.due("public constructors", theatre.getConstructors().length, 1);
        Set<String> found = new TreeSet<>();
        for (Method method : theatre.getDeclaredMethods()) {
            String name = method.getName() + " " + method.getParameterCount();
            if (Modifier.isPublic(method.getModifiers())) {
                found.add(name);
                Due.due(name + " returns int", method.getReturnType() == int.class);
                Due.due(name + " takes int",
                    Arrays.stream(method.getParameterTypes()).allMatch(type -> type == int.class));
            } else {
                Due.due(name + " is private", Modifier.isPrivate(method.getModifiers()));
                Due.due(name + " has a name of its own", FACE.stream().noneMatch(
                    told -> told.startsWith(method.getName() + " ")));
            }
        }
        Due.due("the face " + found, found.equals(FACE));
        int constants = 0;
        for (Field field : theatre.getDeclaredFields()) {
            if (Modifier.isPublic(field.getModifiers())) {
                constants++;
            } else {
                Due.due(field.getName() + " is private", Modifier.isPrivate(field.getModifiers()));
            }
        }
        Due.due("public constants", constants, 4);
    }

    private static void classes() {
        Class<?>[] inside = FoldedTheatre.class.getDeclaredClasses();
        Due.due("at most 12 classes", inside.length < 12);
        for (Class<?> each : inside) {
            Due.due(each + " is static", Modifier.isStatic(each.getModifiers()));
            Due.due(each + " is not public", !Modifier.isPublic(each.getModifiers()));
            for (Method method : each.getDeclaredMethods()) {
                Due.due(method + " has a name of its own", FACE.stream().noneMatch(
                    told -> told.startsWith(method.getName() + " ")));
                Due.due(method + " takes at most seven", method.getParameterCount() <= 7);
            }
            for (Field field : each.getDeclaredFields()) {
                boolean changes = Modifier.isStatic(field.getModifiers()) && !Modifier.isFinal(field.getModifiers());
                Due.due(field + " is no static state", !changes);
            }
        }
    }

    private static String text() {
        try {
            return Files.readString(Path.of("src/main/java/FoldedTheatre.java"));
        } catch (IOException thrown) {
            throw new UncheckedIOException(thrown);
        }
    }

    private static void source() {
        String source = text();
        for (String word : FORBIDDEN) {
            Due.due("no '" + word + "' in the source", !source.contains(word));
        }
        Due.due("only signs from 1 to 127", source.chars().allMatch(c -> c >= 1 && c <= 127));
    }

    private static void headings() {
        String source = text();
        for (String part : PARTS) {
            String[] headingAndCalls = part.split(": ");
            String heading = "    // ---- " + headingAndCalls[0] + "\n";
            int start = source.indexOf(heading) + heading.length();
            Due.due(heading, start >= heading.length());
            String under = source.substring(start, source.indexOf("    // ---- ", start));
            StringBuilder calls = new StringBuilder();
            Matcher matcher = Pattern.compile("public int (\\w+)\\(").matcher(under);
            while (matcher.find()) {
                calls.append(calls.length() == 0 ? "" : " ").append(matcher.group(1));
            }
            Due.due("under '" + headingAndCalls[0] + "' are the calls " + calls,
                calls.toString().equals(headingAndCalls[1]));
        }
    }

    public static void main(String[] args) {
        Due.test("Face: the constants", FaceTest::constants);
        Due.test("Face: the public members", FaceTest::members);
        Due.test("Face: the classes inside", FaceTest::classes);
        Due.test("Face: the headings of the calls", FaceTest::headings);
        Due.test("Face: the source keeps to the language", FaceTest::source);
        Due.finish();
    }
}
