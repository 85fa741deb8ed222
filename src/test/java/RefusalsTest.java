import java.util.ArrayList;
import java.util.LinkedHashMap;
import java.util.List;
import java.util.Map;
import java.util.Set;
import java.util.function.Supplier;

/**
 * "Terms" 3: each call with all numbers at and beside its bounds, in all their joinings, on objects with nothing, some
 * and as much as can be. What is refused, and how, is written here as the document has it; what is refused or only
 * asked changes nothing.
 */
public final class RefusalsTest {
    private static final int NONE = -1, BAD = -2, STATE = -3, FULL = -4;
    private static final int FAR_NONE = -10001, FAR_BAD = -10002, FAR_STATE = -10003;
    private static final long NO = Long.MIN_VALUE, FINE = 1;

    private static final int LEAST = Integer.MIN_VALUE, MOST = Integer.MAX_VALUE;
    private static final int[] BOTTLE = {LEAST, -2, -1, 0, 1, 2, 3, 5, 6, MOST};
    private static final int[] GUEST = {LEAST, -1, 0, 1, 2, 3, 4, MOST};
    private static final int[] DIGIT = {LEAST, -1, 0, 9, 10, MOST};
    private static final int[] MOOD = {LEAST, -100, -99, 0, 99, 100, MOST};
    private static final int[] SAYS = {LEAST, -1000, -999, 0, 999, 1000, MOST};
    private static final int[] KIND = {LEAST, -1, 0, 1, 3, 6, 7, MOST};
    private static final int[] QUARTER = {LEAST, -1, 0, 3, 4, MOST};
    private static final int[] TWO = {LEAST, -1, 0, 1, 2, MOST};
    private static final int[] YEARS = {LEAST, -1, 0, 1, 60, 61, MOST};
    private static final int[] OF_ALL = {LEAST, LEAST + 10, LEAST + 20, -1, 0, 1, 2, 9, 10, 12, 13, 15, 16, 19, 20, 21,
        22, 23, 24, MOST};

    private static final Set<String> FAR = Set.of("of", "mood", "told", "pour", "both", "on", "when", "line", "words",
        "done");
    private static final Set<String> ASKS = Set.of("of", "mood", "told", "on", "when", "ripe", "lies", "choose", "line",
        "pair", "match", "words", "old", "firm", "whose", "odds", "mean", "done", "looked", "trace", "as", "count");

    private static Map<String, int[][]> calls() {
        Map<String, int[][]> calls = new LinkedHashMap<>();
        calls.put("feed", new int[][] {{LEAST, -1, 0, 127, 128, MOST}});
        calls.put("cellar", new int[][] {});
        calls.put("bottle", new int[][] {KIND, DIGIT, MOOD});
        calls.put("guest", new int[][] {MOOD});
        calls.put("of", new int[][] {BOTTLE, {LEAST, -1, 0, 1, 2, 3, 4, 5, 6, 7, 8, MOST}});
        calls.put("row", new int[][] {BOTTLE, QUARTER, DIGIT});
        calls.put("set", new int[][] {BOTTLE, TWO, {LEAST, -1, 0, 3, 4, 199, 200, MOST}});
        calls.put("mood", new int[][] {GUEST});
        calls.put("told", new int[][] {{LEAST, -1, 0, 1, 2, 3, 4, 5, 6, MOST}});
        calls.put("pour", new int[][] {BOTTLE, GUEST});
        calls.put("both", new int[][] {BOTTLE, BOTTLE, GUEST});
        calls.put("pass", new int[][] {YEARS});
        calls.put("on", new int[][] {YEARS, OF_ALL});
        calls.put("when", new int[][] {BOTTLE, TWO});
        calls.put("ripe", new int[][] {BOTTLE});
        calls.put("lies", new int[][] {BOTTLE});
        calls.put("choose", new int[][] {GUEST, MOOD});
        calls.put("line", new int[][] {GUEST, {LEAST, -2, -1, 0, 5, 6, MOST}});
        calls.put("pair", new int[][] {});
        calls.put("match", new int[][] {OF_ALL});
        calls.put("words", new int[][] {BOTTLE, SAYS, TWO});
        calls.put("see", new int[][] {BOTTLE, SAYS, {LEAST, -1, 0, 20, 21, MOST}});
        calls.put("old", new int[][] {BOTTLE, TWO});
        calls.put("firm", new int[][] {BOTTLE, TWO});
        calls.put("whose", new int[][] {SAYS, {LEAST, -1, 0, 40, 41, MOST}});
        calls.put("odds", new int[][] {GUEST, MOOD, TWO});
        calls.put("mean", new int[][] {YEARS, TWO});
        calls.put("evening", new int[][] {{LEAST, -2, -1, 0, 1, 2, 3, 4, MOST}, BOTTLE, GUEST});
        calls.put("done", new int[][] {TWO});
        calls.put("book", new int[][] {BOTTLE, SAYS});
        calls.put("looked", new int[][] {});
        calls.put("trace", new int[][] {{LEAST, -1, 0, 4, 5, 6, 7, 19, 20, MOST}});
        calls.put("as", new int[][] {BOTTLE, KIND});
        calls.put("image", new int[][] {});
        calls.put("undo", new int[][] {});
        calls.put("count", new int[][] {{LEAST, -1, 0, 1, 2, 3, 4, 5, 6, 7, 8, MOST}});
        return calls;
    }

    // how all is, as refusals have to know it
    private final int[] counts = new int[8];
    private final int[] kinds = new int[6];
    private final int full;
    private final int year;
    private final boolean imaged;

    private RefusalsTest(LaidQuarrel x, boolean imaged) {
        for (int what = 0; what < counts.length; what++) {
            counts[what] = x.count(what);
        }
        for (int b = 0; b < counts[0]; b++) {
            kinds[b] = x.of(b, 0);
        }
        full = x.told(3);
        year = x.told(0);
        this.imaged = imaged;
    }

    private static boolean in(int n, int least, int greatest) {
        return least <= n && n <= greatest;
    }

    private boolean bottle(int b) {
        return in(b, 0, counts[0] - 1);
    }

    private boolean guest(int g) {
        return in(g, 0, counts[7] - 1);
    }

    private boolean isEmpty(int b) {
        return (full >> b & 1) == 0;
    }

    /** The first refusal told, or FINE. */
    private long refusal(String call, int[] a) {
        switch (call) {
            case "feed": return !in(a[0], 0, 127) ? BAD : counts[5] == 100 ? FULL : FINE;
            case "cellar": return counts[1] == 5 ? FULL : FINE;
            case "bottle": return !in(a[0], 0, 6) ? NONE : !in(a[1], 0, 9) || !in(a[2], -99, 99) ? BAD
                : counts[0] == 6 ? FULL : FINE;
            case "guest": return !in(a[0], -99, 99) ? BAD : counts[7] == 4 ? FULL : FINE;
            case "of": return !bottle(a[0]) || !in(a[1], 0, 7) ? FAR_NONE : FINE;
            case "row": return !bottle(a[0]) || !in(a[1], 0, 3) ? NONE : !in(a[2], 0, 9) ? BAD
                : kinds[a[0]] != 6 ? STATE : FINE;
            case "set": return !bottle(a[0]) || !in(a[1], 0, 1) ? NONE : !in(a[2], 0, a[1] == 0 ? 199 : 3) ? BAD : FINE;
            case "mood": return !guest(a[0]) ? FAR_NONE : FINE;
            case "told": return !in(a[0], 0, 5) ? FAR_NONE : FINE;
            case "pour": return !bottle(a[0]) || !guest(a[1]) ? FAR_NONE : isEmpty(a[0]) ? FAR_STATE : FINE;
            case "both": return !bottle(a[0]) || !bottle(a[1]) || !guest(a[2]) ? FAR_NONE : a[0] == a[1] ? FAR_BAD
                : isEmpty(a[0]) || isEmpty(a[1]) ? FAR_STATE : FINE;
            case "pass": return !in(a[0], 0, 60) ? BAD : year + a[0] > 9999 ? STATE : FINE;
            case "on": return !ofAll(a[1]) ? FAR_NONE : !in(a[0], 0, 60) ? FAR_BAD : FINE;
            case "when": return !bottle(a[0]) || !in(a[1], 0, 1) ? FAR_NONE : FINE;
            case "ripe": case "lies": return !bottle(a[0]) ? NONE : FINE;
            default: return refusalOfOthers(call, a);
        }
    }

    private boolean ofAll(int what) {
        return in(what, 0, 1) || in(what, 10, 15) && bottle(what - 10) || in(what, 20, 23) && guest(what - 20);
    }

    private long refusalOfOthers(String call, int[] a) {
        switch (call) {
            case "choose": return !guest(a[0]) ? NONE : !in(a[1], -99, 99) ? BAD : FINE;
            case "line": return !guest(a[0]) || !in(a[1], -1, 5) ? FAR_NONE : FINE;
            case "match": return a[0] != 0 && !(in(a[0], 10, 15) && bottle(a[0] - 10)) ? NONE : FINE;
            case "words": return !bottle(a[0]) || !in(a[2], 0, 1) ? FAR_NONE : !in(a[1], -999, 999) ? FAR_BAD : FINE;
            case "see": return a[0] == -1 ? FINE : !bottle(a[0]) ? NONE
                : !in(a[1], -999, 999) || !in(a[2], 0, 20) ? BAD : counts[2] == 5 ? FULL : FINE;
            case "old": case "firm": return !bottle(a[0]) || !in(a[1], 0, 1) ? NONE : FINE;
            case "whose": return !in(a[0], -999, 999) || !in(a[1], 0, 40) ? BAD : FINE;
            case "odds": return !guest(a[0]) || !in(a[1], -99, 99) || !in(a[2], 0, 1) || full == 0 ? NO : FINE;
            case "mean": return !in(a[0], 0, 60) || !in(a[1], 0, 1) || full == 0 ? NO : FINE;
            case "evening": return a[0] == -1 ? FINE : !in(a[0], 0, 3) || a[0] != 0 && !bottle(a[1])
                || a[0] == 1 && !guest(a[2]) ? NONE : counts[3] == 8 ? FULL : FINE;
            case "done": return !in(a[0], 0, 1) ? FAR_NONE : FINE;
            case "book": return a[0] == -1 ? FINE : !bottle(a[0]) ? NONE : !in(a[1], -999, 999) ? BAD
                : counts[4] == 8 ? FULL : FINE;
            case "trace": return !in(a[0], 0, counts[6] - 1) ? NONE : FINE;
            case "as": return !bottle(a[0]) || !in(a[1], 0, 6) ? NONE : FINE;
            case "undo": return imaged ? FINE : STATE;
            case "count": return !in(a[0], 0, 7) ? NONE : FINE;
            default: return FINE;
        }
    }

    private static boolean isRefusal(String call, long answer) {
        if (call.equals("odds") || call.equals("mean")) {
            return answer == NO;
        }
        return FAR.contains(call) ? answer <= FAR_NONE && answer >= FAR_STATE : answer <= NONE && answer >= FULL;
    }

    private static List<int[]> joined(int[][] numbers) {
        List<int[]> all = new ArrayList<>();
        all.add(new int[0]);
        for (int[] column : numbers) {
            List<int[]> longer = new ArrayList<>();
            for (int[] row : all) {
                for (int n : column) {
                    int[] next = java.util.Arrays.copyOf(row, row.length + 1);
                    next[row.length] = n;
                    longer.add(next);
                }
            }
            all = longer;
        }
        return all;
    }

    private static void look(Supplier<LaidQuarrel> made, boolean imaged, String call, int[][] numbers) {
        RefusalsTest facts = new RefusalsTest(made.get(), imaged);
        String whole = Whole.of(made.get());
        LaidQuarrel asked = made.get();
        int calls = 0;
        for (int[] a : joined(numbers)) {
            long want = facts.refusal(call, a);
            String name = call + java.util.Arrays.toString(a);
            if (want != FINE) {
                Edge.of("Terms 3", "REFUSALS, of several the first one told: NONE there is no such BOTTLE, GUEST, "
                    + "KIND, what, part, k, i; BAD a number is not as told, or two are one; STATE as told; FULL.");
                Edge.due(asked, want, call, a);
            } else {
                LaidQuarrel answers = ASKS.contains(call) ? asked : made.get();
                Edge.holds(name + " is no refusal", !isRefusal(call, Edge.call(answers, call, a)));
            }
            calls += want != FINE || ASKS.contains(call) ? 1 : 0;
            // an object is asked 512 times at most, so another one comes in time
            if (calls == 30) {
                unchanged(call, asked, whole);
                asked = made.get();
                calls = 0;
            }
        }
        unchanged(call, asked, whole);
    }

    private static void unchanged(String call, LaidQuarrel x, String whole) {
        Edge.of("Terms 3", "They change nothing.");
        Edge.same(call + " refused or asked", Whole.of(x), whole);
    }

    private static void farNumbers() {
        Edge.of("Terms 3", "Where -999 .. 999 or a MOOD is told, -10001, -10002, -10003 stand for NONE, BAD, STATE.");
        Supplier<LaidQuarrel> made = Tables::laid;
        int[][] none = {{9, 7}, {9}, {9}, {9, 0}, {9, 0, 0}, {0, 19}, {9, 0}, {9, 0}, {9, 0, 0}, {9}};
        String[] calls = {"of", "mood", "told", "pour", "both", "on", "when", "line", "words", "done"};
        for (int i = 0; i < calls.length; i++) {
            Edge.refused(made, FAR_NONE, calls[i], none[i]);
        }
        Edge.refused(made, FAR_BAD, "both", 0, 0, 0);
        Edge.refused(made, FAR_BAD, "on", 61, 0);
        Edge.refused(made, FAR_BAD, "words", 0, 1000, 0);
        Edge.refused(made, FAR_STATE, "pour", 1, 0);
        Edge.refused(made, FAR_STATE, "both", 0, 1, 0);
    }

    private static LaidQuarrel empties() {
        LaidQuarrel x = new LaidQuarrel();
        for (int b = 0; b < 6; b++) {
            x.bottle(b, b, 10 * b);
        }
        x.guest(7);
        x.both(0, 1, 0);
        x.both(2, 3, 0);
        x.both(4, 5, 0);
        return x;
    }

    public static void main(String[] args) {
        calls().forEach((call, numbers) -> {
            look(Tables::bare, false, call, numbers);
            look(Tables::laid, true, call, numbers);
            look(Tables::full, true, call, numbers);
            look(Tables::late, false, call, numbers);
            look(RefusalsTest::empties, false, call, numbers);
        });
        farNumbers();
        Check.end("RefusalsTest");
    }
}
