import java.lang.reflect.Constructor;
import java.lang.reflect.Field;
import java.lang.reflect.Method;
import java.lang.reflect.Modifier;
import java.util.HashMap;
import java.util.Map;

/** The public face is the document's, no more and no less, and no call throws whatever comes. */
public final class FaceTest {
    private static final String[] CALLS = {"feed 1", "cellar 0", "bottle 3", "guest 1", "of 2", "row 3", "set 3",
        "mood 1", "told 1", "pour 2", "both 3", "pass 1", "on 2", "when 2", "ripe 1", "lies 1", "choose 2", "line 2",
        "pair 0", "match 1", "words 3", "see 3", "old 2", "firm 2", "whose 2", "odds 3", "mean 2", "evening 3",
        "done 1", "book 2", "looked 0", "act 3", "trace 1", "as 2", "image 0", "undo 0", "count 1"};
    private static final int[] ODD = {Integer.MIN_VALUE, Integer.MIN_VALUE + 10, Integer.MIN_VALUE + 20, -10001, -1000,
        -100, -99, -7, -2, -1, 0, 1, 2, 3, 5, 6, 7, 10, 11, 15, 16, 20, 23, 24, 60, 99, 100, 128, 999, 1000,
        Integer.MAX_VALUE - 10, Integer.MAX_VALUE};

    private static void constants() {
        Check.due("NONE", LaidQuarrel.NONE, -1);
        Check.due("BAD", LaidQuarrel.BAD, -2);
        Check.due("STATE", LaidQuarrel.STATE, -3);
        Check.due("FULL", LaidQuarrel.FULL, -4);
        Check.due("NO", LaidQuarrel.NO, Long.MIN_VALUE);
        int open = 0;
        for (Field field : LaidQuarrel.class.getDeclaredFields()) {
            if (!Modifier.isPrivate(field.getModifiers())) {
                open++;
            }
        }
        Check.due("constants", open, 5);
    }

    private static Map<String, Method> face() {
        Map<String, Method> face = new HashMap<>();
        int hidden = 0;
        for (Method method : LaidQuarrel.class.getDeclaredMethods()) {
            if (Modifier.isPublic(method.getModifiers())) {
                face.put(method.getName() + " " + method.getParameterCount(), method);
            } else if (!Modifier.isPrivate(method.getModifiers())) {
                hidden++;
            }
        }
        Check.due("neither public nor private", hidden, 0);
        Check.due("calls", face.size(), CALLS.length);
        for (String call : CALLS) {
            Method method = face.get(call);
            Check.holds("has " + call, method != null);
            Class<?> answer = call.startsWith("odds") || call.startsWith("mean") ? long.class : int.class;
            Check.holds("answer of " + call, method != null && method.getReturnType() == answer);
        }
        Constructor<?>[] makers = LaidQuarrel.class.getDeclaredConstructors();
        Check.due("constructors", makers.length, 1);
        Check.due("without arguments", makers[0].getParameterCount(), 0);
        Check.holds("public and final",
            Modifier.isPublic(LaidQuarrel.class.getModifiers()) && Modifier.isFinal(LaidQuarrel.class.getModifiers()));
        return face;
    }

    private static LaidQuarrel filled(boolean full) {
        LaidQuarrel x = new LaidQuarrel();
        for (int b = 0; full && b < 6; b++) {
            x.bottle(6 - b, 9, b % 2 == 0 ? 99 : -99);
            x.set(b, 0, 199);
            x.set(b, 1, b % 4);
            x.see(b, 0, 20);
            x.evening(b % 4, b, 0);
        }
        for (int g = 0; full && g < 4; g++) {
            x.guest(99);
        }
        if (full) {
            Check.due("reads", Check.read(x, "soften 99 !!!!!b>9;soften 99 (((((b<9)))));calm 99;peace 99"), 0);
        }
        return x;
    }

    private static void all(LaidQuarrel x, Method method, int[] at, int depth) throws Exception {
        if (depth == at.length) {
            Object[] arguments = new Object[at.length];
            for (int i = 0; i < at.length; i++) {
                arguments[i] = ODD[at[i]];
            }
            method.invoke(x, arguments);
            return;
        }
        for (at[depth] = 0; at[depth] < ODD.length; at[depth]++) {
            all(x, method, at, depth + 1);
        }
    }

    private static void neverThrows(Map<String, Method> face) {
        for (String call : CALLS) {
            for (int full = 0; full < 2; full++) {
                try {
                    Method method = face.get(call);
                    all(filled(full == 1), method, new int[method.getParameterCount()], 0);
                    Check.due(call, 0, 0);
                } catch (Exception e) {
                    Check.holds(call + " throws " + e.getCause(), false);
                }
            }
        }
    }

    public static void main(String[] args) {
        constants();
        neverThrows(face());
        Check.end("FaceTest");
    }
}
