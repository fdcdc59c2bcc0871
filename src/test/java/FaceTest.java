import java.io.IOException;
import java.lang.reflect.Constructor;
import java.lang.reflect.Field;
import java.lang.reflect.Member;
import java.lang.reflect.Method;
import java.lang.reflect.Modifier;
import java.nio.file.Files;
import java.nio.file.Path;
import java.util.ArrayList;
import java.util.Arrays;
import java.util.HashSet;
import java.util.List;
import java.util.Set;
import java.util.StringJoiner;
import java.util.TreeSet;
import java.util.regex.Matcher;
import java.util.regex.Pattern;

/** The document's face and no other, the rules of LANGUAGE.md that can be looked up, and calls that never fail. */
public final class FaceTest {
    private static final Check check = new Check();
    private static final Set<String> FACE = Set.of("type/1", "clear/0", "sheds/0", "wind/1", "one/2", "thought/2",
            "begins/2", "minutes/1", "enters/1", "leaves/1", "undo/0", "now/1", "after/2", "down/0", "best/3",
            "own/1", "odds/5", "saw/3", "which/1", "look/1", "hears/2", "laws/1", "forget/0", "mark/2", "keep/1",
            "back/1", "count/1", "trace/0");
    private static final int[] EDGES = {Integer.MIN_VALUE, -1000001, -10, -2, -1, 0, 1, 2, 3, 4, 5, 6, 7, 9, 10, 30,
        31, 40, 41, 99, 100, 255, 256, Integer.MAX_VALUE};

    public static void main(String[] args) throws Exception {
        constants();
        members();
        documentsFace();
        constructors();
        names();
        words();
        neverFails(new ThoughtBalloon());
        neverFails(Check.told("w1 6;w2 0;p0 9 1;p9 1 0;p3 3 1;t30 0;t9 5;t1 0;t12 1;x39;"));
        check.end();
    }

    private static void constants() {
        check.due("BAD", ThoughtBalloon.BAD, -1);
        check.due("STATE", ThoughtBalloon.STATE, -2);
        check.due("FULL", ThoughtBalloon.FULL, -3);
        check.due("NONE", ThoughtBalloon.NONE, -9);
        check.due("NO", ThoughtBalloon.NO, -1000000);
    }

    private static void members() {
        Class<?> c = ThoughtBalloon.class;
        check.due("public and final", c.getModifiers() & (Modifier.PUBLIC | Modifier.FINAL), 17);
        check.due("constructors", c.getDeclaredConstructors().length, 1);
        Set<String> seen = new HashSet<>();
        List<Member> members = new ArrayList<>(Arrays.asList(c.getDeclaredMethods()));
        members.addAll(Arrays.asList(c.getDeclaredFields()));
        for (Member member : members) {
            if (Modifier.isPrivate(member.getModifiers())) {
                continue;
            }
            check.due(member + " is public", Modifier.isPublic(member.getModifiers()) ? 1 : 0, 1);
            if (member instanceof Method method) {
                seen.add(method.getName() + "/" + method.getParameterCount());
                Class<?> due = method.getName().equals("trace") ? long.class : int.class;
                check.due(member + " answers " + due, method.getReturnType() == due ? 1 : 0, 1);
            } else {
                Set<String> constants = Set.of("BAD", "STATE", "FULL", "NONE", "NO");
                check.due(member + " is of the face", constants.contains(member.getName()) ? 1 : 0, 1);
            }
        }
        check.due("the face " + new TreeSet<>(seen), seen.equals(FACE) ? 1 : 0, 1);
        check.due("few classes", c.getDeclaredClasses().length <= 11 ? 1 : 0, 1);
        for (Class<?> inside : c.getDeclaredClasses()) {
            check.due(inside + " is static", Modifier.isStatic(inside.getModifiers()) ? 1 : 0, 1);
        }
    }

    /** The face line by line as the document writes it, parameters' types and all. */
    private static void documentsFace() throws IOException {
        Set<String> written = new TreeSet<>();
        Matcher line = Pattern.compile("public (\\w+) (\\w+)\\(([^)]*)\\);").matcher(new Document().text());
        while (line.find()) {
            String types = line.group(3).replaceAll("(\\w+) \\w+", "$1").replace(" ", "");
            written.add(line.group(1) + " " + line.group(2) + "(" + types + ")");
        }
        Set<String> declared = new TreeSet<>();
        for (Method method : ThoughtBalloon.class.getDeclaredMethods()) {
            if (Modifier.isPublic(method.getModifiers())) {
                StringJoiner types = new StringJoiner(",", "(", ")");
                for (Class<?> type : method.getParameterTypes()) {
                    types.add(type.getName());
                }
                check.due(method + " is not static", Modifier.isStatic(method.getModifiers()) ? 1 : 0, 0);
                declared.add(method.getReturnType() + " " + method.getName() + types);
            }
        }
        check.due("the document's face " + written + ", the class's " + declared, written.equals(declared) ? 1 : 0, 1);
    }

    /** Rule 12: a constructor that takes nothing can be handed nothing of the balloon that is being made. */
    private static void constructors() {
        check.due("the balloon's takes nothing",
                ThoughtBalloon.class.getDeclaredConstructors()[0].getParameterCount(), 0);
        for (Class<?> inside : ThoughtBalloon.class.getDeclaredClasses()) {
            for (Constructor<?> constructor : inside.getDeclaredConstructors()) {
                check.due(constructor + " takes nothing", constructor.getParameterCount(), 0);
            }
        }
    }

    private static void names() {
        List<Class<?>> classes = new ArrayList<>(Arrays.asList(ThoughtBalloon.class.getDeclaredClasses()));
        classes.add(ThoughtBalloon.class);
        for (Class<?> c : classes) {
            int fields = 0;
            for (Field field : c.getDeclaredFields()) {
                boolean fixed = Modifier.isStatic(field.getModifiers());
                fields += fixed ? 0 : 1;
                check.due(field + " is no state of all", fixed && !Modifier.isFinal(field.getModifiers()) ? 1 : 0, 0);
            }
            check.due(c + " has few fields", fields <= 20 ? 1 : 0, 1);
            for (Method method : c.getDeclaredMethods()) {
                check.due(method + " has few parameters", method.getParameterCount() <= 7 ? 1 : 0, 1);
                boolean ofFace = FACE.stream().anyMatch(f -> f.startsWith(method.getName() + "/"));
                check.due(method + " has a name of its own",
                        ofFace && !Modifier.isPublic(method.getModifiers()) ? 1 : 0, 0);
            }
        }
    }

    private static void words() throws IOException {
        String source = Files.readString(Path.of("src/main/java/ThoughtBalloon.java"));
        String code = source.replaceAll("(?s)/\\*.*?\\*/", "").replaceAll("//[^\n]*", "");
        Matcher word = Pattern.compile("\\b(throw|throws|try|catch|synchronized|assert|double|float|Exact|enum|"
                + "random|nanoTime|protected|System\\.(?!arraycopy))\\b|->|::").matcher(code);
        check.due("no word that is ruled out", word.find() ? 1 : 0, 0);
        Matcher imports = Pattern.compile("import (?!java\\.util\\.Arrays;)").matcher(code);
        check.due("no other library", imports.find() ? 1 : 0, 0);
        check.due("signs 1 to 127", source.chars().allMatch(c -> c > 0 && c < 128) ? 1 : 0, 1);
    }

    /** Each call with all edges for each of its numbers; what it answers is a number, or this test ends in a throw. */
    private static void neverFails(ThoughtBalloon b) throws Exception {
        int calls = 0;
        for (Method method : ThoughtBalloon.class.getMethods()) {
            int n = method.getParameterCount();
            if (!FACE.contains(method.getName() + "/" + n)) {
                continue;
            }
            int rows = 1;
            for (int i = 0; i < n; i++) {
                rows *= EDGES.length;
            }
            for (int row = 0; row < rows; row += n > 3 ? 97 : 1) {
                Object[] numbers = new Object[n];
                for (int i = 0, rest = row; i < n; i++, rest /= EDGES.length) {
                    numbers[i] = EDGES[rest % EDGES.length];
                }
                method.invoke(b, numbers);
                calls++;
            }
        }
        check.due("all calls have answered", calls > 1000 ? 1 : 0, 1);
    }
}
