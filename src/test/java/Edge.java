import java.lang.reflect.Method;
import java.util.Arrays;
import java.util.HashMap;
import java.util.Map;
import java.util.function.Supplier;

/**
 * Cases that belong to one sentence of ../shared/DOC.md: an answer that is not due is told with that sentence, and
 * SentencesTest looks whether every sentence has its cases. The calls are asked by name, so that a case tells itself.
 */
final class Edge {
    static final int LEAST = Integer.MIN_VALUE, MOST = Integer.MAX_VALUE;

    private static final Map<String, Method> CALLS = new HashMap<>();
    private static String sentence = "";

    private Edge() {
    }

    /** What follows belongs to these words of this section ("Terms 1", "Promise 1"). */
    static void of(String section, String words) {
        sentence = section + ", \"" + words + "\": ";
    }

    static long call(LaidQuarrel x, String name, int... with) {
        if (CALLS.isEmpty()) {
            for (Method method : LaidQuarrel.class.getDeclaredMethods()) {
                CALLS.put(method.getName(), method);
            }
        }
        try {
            return ((Number) CALLS.get(name).invoke(x, Arrays.stream(with).boxed().toArray())).longValue();
        } catch (ReflectiveOperationException e) {
            throw new IllegalStateException(name + Arrays.toString(with), e);
        }
    }

    static void is(String what, long got, long want) {
        Check.due(sentence + what, got, want);
    }

    static void due(LaidQuarrel x, long want, String name, int... with) {
        is(name + Arrays.toString(with), call(x, name, with), want);
    }

    /** The refusal is answered, and all is then as on an object that was not asked. */
    static void refused(Supplier<LaidQuarrel> made, long want, String name, int... with) {
        LaidQuarrel x = made.get();
        due(x, want, name, with);
        same(name + Arrays.toString(with) + " changes nothing", Whole.of(x), Whole.of(made.get()));
    }

    static void same(String what, String got, String want) {
        Check.holds(sentence + what + "\n  " + got + "\n  " + want, got.equals(want));
    }

    static void holds(String what, boolean so) {
        Check.holds(sentence + what, so);
    }

    static void good(String text) {
        reads(text, 0);
    }

    static void fault(int place, String text) {
        reads(text, -10 - place);
    }

    private static void reads(String text, int want) {
        is("cellar() of \"" + text + "\"", Check.readAlone(text), want);
    }
}
