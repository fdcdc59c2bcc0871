import java.lang.reflect.Method;
import java.util.ArrayList;
import java.util.Arrays;
import java.util.Comparator;
import java.util.List;
import java.util.StringJoiner;
import java.util.function.Supplier;

/** Tests of which each is about one sentence of the document: its boundary, and the first value beyond it. */
abstract class Bounds {
    static final int BAD = ThoughtBalloon.BAD, STATE = ThoughtBalloon.STATE, FULL = ThoughtBalloon.FULL;
    static final int NONE = ThoughtBalloon.NONE, NO = ThoughtBalloon.NO;

    private final Check check = new Check();
    private String sentence = "";

    /** The tests of a class, by their promises. */
    static List<Method> tests(Class<?> tests) {
        List<Method> found = new ArrayList<>();
        for (Method method : tests.getDeclaredMethods()) {
            if (method.isAnnotationPresent(Says.class)) {
                found.add(method);
            }
        }
        found.sort(Comparator.comparingInt((Method m) -> m.getAnnotation(Says.class).promise())
                .thenComparing(Method::getName));
        return found;
    }

    final void run() throws Exception {
        Document document = new Document();
        for (Method test : tests(getClass())) {
            Says says = test.getAnnotation(Says.class);
            sentence = "promise " + says.promise() + ", \"" + says.words() + "\", " + test.getName() + ": ";
            holds("the document says it", document.find(says.promise(), says.words()) >= 0);
            int before = check.asked();
            test.invoke(this);
            holds("it asks something", check.asked() > before);
        }
        check.end();
    }

    final void holds(String what, boolean so) {
        check.due(sentence + what, so ? 1 : 0, 1);
    }

    /** A call's answer is the one that is due. */
    final void due(ThoughtBalloon b, long want, String call, int... numbers) {
        check.due(sentence + shown(call, numbers), ask(b, call, numbers), want);
    }

    /** A call answers as it must when it is refused, and a balloon that was asked is like one that was not. */
    final void refused(Supplier<ThoughtBalloon> made, long want, String call, int... numbers) {
        ThoughtBalloon b = made.get();
        due(b, want, call, numbers);
        alike(shown(call, numbers) + " changes nothing", b, made.get());
    }

    /** One of a call's numbers is taken at both ends of its range; just beyond, and far beyond, it is refused. */
    final void bounds(Supplier<ThoughtBalloon> made, int want, int which, int low, int high, String call,
            int... numbers) {
        for (int end : new int[] {low, high}) {
            int[] fit = with(numbers, which, end);
            long got = ask(made.get(), call, fit);
            holds(shown(call, fit) + " is not refused", want == NO ? got != NO : got >= 0 || got == NONE);
        }
        for (int beyond : new int[] {low - 1, high + 1, Integer.MIN_VALUE, Integer.MAX_VALUE}) {
            refused(made, want, call, with(numbers, which, beyond));
        }
    }

    /** All that two balloons can be asked is alike; both are used up by it. */
    final void alike(String what, ThoughtBalloon b, ThoughtBalloon other) {
        holds(what, Check.everything(b).equals(Check.everything(other)));
    }

    /** A new balloon that has read a text and let minutes go by. */
    static ThoughtBalloon at(String text, int minute) {
        ThoughtBalloon b = Check.told(text);
        pass(b, minute);
        return b;
    }

    /** A new balloon in which person 0 has begun thought 0, so many minutes later. */
    static ThoughtBalloon flown(String text, int minutes) {
        ThoughtBalloon b = Check.told(text);
        b.begins(0, 0);
        pass(b, minutes);
        return b;
    }

    static void pass(ThoughtBalloon b, int minutes) {
        for (int left = minutes; left > 0; left -= 9) {
            b.minutes(Math.min(9, left));
        }
    }

    private static int[] with(int[] numbers, int which, int number) {
        int[] changed = numbers.clone();
        changed[which] = number;
        return changed;
    }

    private static String shown(String call, int[] numbers) {
        StringJoiner joiner = new StringJoiner(", ", call + "(", ")");
        for (int number : numbers) {
            joiner.add(String.valueOf(number));
        }
        return joiner.toString();
    }

    static long ask(ThoughtBalloon b, String call, int[] numbers) {
        Class<?>[] types = new Class<?>[numbers.length];
        Arrays.fill(types, int.class);
        Object[] arguments = Arrays.stream(numbers).boxed().toArray();
        try {
            return ((Number) ThoughtBalloon.class.getMethod(call, types).invoke(b, arguments)).longValue();
        } catch (ReflectiveOperationException e) {
            throw new IllegalStateException(shown(call, numbers), e);
        }
    }
}
