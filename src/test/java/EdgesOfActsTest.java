import java.util.ArrayList;
import java.util.List;
import java.util.function.Consumer;
import java.util.function.Supplier;

/** The edges that "Terms" 2 names of ACTS and of THE IMAGE, and those of promises 33 to 38. */
public final class EdgesOfActsTest {
    private static final String TERMS = "Terms 2";
    private static final int NONE = LaidQuarrel.NONE, STATE = LaidQuarrel.STATE;
    private static final int UTTERS = 0, KEEPS = 1, TELLS = 2;
    private static final int BOTTLE = 0, HARD = 1, SWEET = 2, CORKED = 3, FEUD = 4, LOVE = 5, TOLD = 6;

    /** The last of BOTTLES, whose number is this one, is of this KIND and has this v. */
    private static LaidQuarrel numbered(int number, int kind, int v) {
        LaidQuarrel x = new LaidQuarrel();
        for (int b = 0; b < number; b++) {
            x.bottle((b + 1) % 7, 9 - b, 0);
        }
        x.bottle(kind, v, 0);
        return x;
    }

    private static void traced(LaidQuarrel x, int... bodies) {
        Edge.due(x, bodies.length, "count", 6);
        for (int i = 0; i < bodies.length; i++) {
            Edge.due(x, bodies[i], "trace", i);
        }
        Edge.due(x, NONE, "trace", bodies.length);
    }

    /** What an ACT of BOTTLE 4 of this KIND with v 3 answers for x 10, and its bodies. */
    private static void acts(int kind, int act, int want, int... bodies) {
        LaidQuarrel x = numbered(4, kind, 3);
        Edge.due(x, want, "act", 4, act, 10);
        traced(x, bodies);
    }

    private static void bodies() {
        Edge.of(TERMS, "BODIES: BOTTLE: 1 utters: x + i.");
        acts(BOTTLE, UTTERS, 14, 1);
        Edge.of(TERMS, "2 keeps: utters(x) - v.");
        acts(BOTTLE, KEEPS, 11, 2, 1);
        Edge.of(TERMS, "3 tells: keeps(x) * 2.");
        acts(BOTTLE, TELLS, 22, 3, 2, 1);
        Edge.of(TERMS, "HARD: 11 utters: super.utters(x * 3).");
        acts(HARD, UTTERS, 34, 11, 1);
        acts(HARD, KEEPS, 31, 2, 11, 1);
        acts(HARD, TELLS, 62, 3, 2, 11, 1);
        Edge.of(TERMS, "SWEET: 21 keeps: -super.keeps(x).");
        acts(SWEET, UTTERS, 14, 1);
        acts(SWEET, KEEPS, -11, 21, 2, 1);
        acts(SWEET, TELLS, -22, 3, 21, 2, 1);
        Edge.of(TERMS, "CORKED: 31 tells: super.tells(x) ^ 7.");
        acts(CORKED, UTTERS, 14, 1);
        acts(CORKED, KEEPS, 11, 2, 1);
        acts(CORKED, TELLS, 17, 31, 3, 2, 1);
        Edge.of(TERMS, "FEUD: 41 tells: super.tells(x - 1) + utters(2).");
        acts(FEUD, UTTERS, 34, 11, 1);
        acts(FEUD, KEEPS, 31, 2, 11, 1);
        acts(FEUD, TELLS, 66, 41, 3, 2, 11, 1, 11, 1);
        Edge.of(TERMS, "LOVE: 51 utters: super.utters(x) ^ i.");
        acts(LOVE, UTTERS, 10, 51, 1);
        acts(LOVE, KEEPS, -7, 21, 2, 51, 1);
        acts(LOVE, TELLS, -14, 3, 21, 2, 51, 1);
        Edge.of(TERMS, "TOLD: 61 keeps: super.keeps(x) + v.");
        acts(TOLD, UTTERS, 14, 1);
        acts(TOLD, KEEPS, 14, 61, 2, 1);
        acts(TOLD, TELLS, 27, 31, 3, 61, 2, 1);
    }

    private static void act(int want, int number, int kind, int v, int act, int x) {
        Edge.due(numbered(number, kind, v), want, "act", number, act, x);
    }

    private static void actsWrap() {
        int least = Integer.MIN_VALUE, most = Integer.MAX_VALUE, high = 1 << 30;
        Edge.of(TERMS, "ACTS of a BOTTLE with x (ints, wrapping): utters, keeps, tells; i its number.");
        act(most, 0, BOTTLE, 9, UTTERS, most);
        act(least, 1, BOTTLE, 9, UTTERS, most);
        act(least + 4, 5, BOTTLE, 9, UTTERS, most);
        act(least, 0, BOTTLE, 9, UTTERS, least);
        act(least, 0, BOTTLE, 0, KEEPS, least);
        act(most, 0, BOTTLE, 1, KEEPS, least);
        act(most - 8, 0, BOTTLE, 9, KEEPS, least);
        act(-2, 0, BOTTLE, 0, TELLS, most);
        act(0, 0, BOTTLE, 0, TELLS, least);
        act(least, 0, BOTTLE, 0, TELLS, high);
        act(2147483646, 0, BOTTLE, 0, TELLS, high - 1);
        act(2147483645, 0, HARD, 0, UTTERS, most);
        act(2147483646, 0, HARD, 0, UTTERS, 715827882);
        act(-2147483647, 0, HARD, 0, UTTERS, 715827883);
        act(least, 0, HARD, 0, UTTERS, least);
        act(least, 0, SWEET, 0, KEEPS, least);
        act(least + 1, 0, SWEET, 0, KEEPS, most);
        act(least + 7, 0, CORKED, 0, TELLS, high);
        act(7, 0, CORKED, 0, TELLS, least);
        act(0, 0, FEUD, 0, TELLS, least);
        act(least + 1, 1, LOVE, 0, UTTERS, most);
        act(least, 0, TOLD, 9, KEEPS, least);
        act(least, 1, TOLD, 9, KEEPS, most);
        act(0, 0, BOTTLE, 0, UTTERS, 0);
        act(-3, 2, BOTTLE, 0, UTTERS, -5);
    }

    private static void whichBodiesRun() {
        Edge.of(TERMS, "utters(..) and so on: the body of its KIND, or, if that has none, of the next KIND above "
            + "that has one; super.utters(..): so from the KIND above the body's on; what stands in a body is done "
            + "from the left on.");
        acts(FEUD, UTTERS, 34, 11, 1);
        acts(FEUD, KEEPS, 31, 2, 11, 1);
        acts(LOVE, TELLS, -14, 3, 21, 2, 51, 1);
        acts(TOLD, TELLS, 27, 31, 3, 61, 2, 1);
        acts(FEUD, TELLS, 66, 41, 3, 2, 11, 1, 11, 1);
        LaidQuarrel x = numbered(5, FEUD, 9);
        Edge.due(x, 2 * (-3 + 5 - 9) + 6 + 5, "act", 5, TELLS, 0);
        Edge.of(TERMS, "THE TRACE: the numbers of the bodies that ran in the latest act(), as they began; the first 20 "
            + "are kept.");
        traced(x, 41, 3, 2, 11, 1, 11, 1);
        x.act(5, UTTERS, 0);
        traced(x, 11, 1);
        x.act(0, TELLS, 0);
        traced(x, 3, 2, 11, 1);
        x.act(1, KEEPS, 0);
        traced(x, 21, 2, 1);
        for (int i : new int[] {3, 6, 7, 18, 19, 20, 21}) {
            Edge.due(x, NONE, "trace", i);
        }
    }

    private static void promises33And34() {
        Edge.of("Promise 33", "An ACT (0 utters, 1 keeps, 2 tells) of a BOTTLE with x.");
        acts(FEUD, 0, 34, 11, 1);
        acts(FEUD, 1, 31, 2, 11, 1);
        acts(FEUD, 2, 66, 41, 3, 2, 11, 1, 11, 1);
        Edge.same("nothing but THE TRACE is otherwise", untraced(Tables.laid()), untraced(Tables.untraced()));
        LaidQuarrel empty = Tables.laid();
        Edge.due(empty, 6, "act", 1, 0, 5);
        Edge.of("Promise 33", "0, and no TRACE then: no such BOTTLE, act.");
        int[][] none = {{-1, 0}, {3, 0}, {Edge.LEAST, 0}, {Edge.MOST, 0}, {2, -1}, {2, 3}, {2, Edge.LEAST},
            {2, Edge.MOST}, {3, 3}, {-1, -1}};
        for (int[] a : none) {
            LaidQuarrel x = Tables.laid();
            Edge.due(x, 7, "count", 6);
            Edge.due(x, 0, "act", a[0], a[1], 5);
            traced(x);
            Edge.due(x, NONE, "trace", 0);
            Edge.same("all else stays", Whole.of(x), Whole.of(Tables.untraced()));
        }
        Edge.due(Tables.bare(), 0, "act", 0, 0, 5);
        Edge.due(Tables.full(), 0, "act", 6, 0, 5);
        Edge.of("Promise 34", "THE TRACE's i-th body.");
        LaidQuarrel x = Tables.laid();
        Edge.due(x, 41, "trace", 0);
        Edge.due(x, 1, "trace", 6);
        x.pass(1);
        x.bottle(9, 9, 9);
        x.image();
        x.undo();
        traced(x, 41, 3, 2, 11, 1, 11, 1);
        Edge.of("Promise 34", "NONE.");
        for (int i : new int[] {Edge.LEAST, -1, 7, 20, Edge.MOST}) {
            Edge.refused(Tables::laid, NONE, "trace", i);
        }
        Edge.refused(Tables::bare, NONE, "trace", 0);
    }

    private static String untraced(LaidQuarrel x) {
        x.act(-1, 0, 0);
        return Whole.of(x);
    }

    private static void promise35() {
        Edge.of("Promise 35", "A BOTTLE taken for a KIND k (0 .. 6), or one under that: its v.");
        int[][] kindTakenFor = {{0, 0}, {1, 0}, {1, 1}, {2, 0}, {2, 2}, {3, 0}, {3, 3}, {4, 0}, {4, 1}, {4, 4}, {5, 0},
            {5, 2}, {5, 5}, {6, 0}, {6, 3}, {6, 6}};
        for (int[] row : kindTakenFor) {
            Edge.due(numbered(0, row[0], 0), 0, "as", 0, row[1]);
            Edge.due(numbered(5, row[0], 9), 9, "as", 5, row[1]);
        }
        LaidQuarrel empty = Tables.laid();
        Edge.due(empty, 0, "as", 1, 0);
        Edge.of("Promise 35", "NONE: bottle, k; -6: it is of another KIND.");
        int[][] none = {{-1, 0}, {3, 0}, {Edge.LEAST, 0}, {Edge.MOST, 0}, {0, -1}, {0, 7}, {0, Edge.LEAST},
            {0, Edge.MOST}, {3, 7}, {1, 7}};
        for (int[] a : none) {
            Edge.refused(Tables::laid, NONE, "as", a);
        }
        int[][] another = {{0, 1, 2, 3, 4, 5, 6}, {1, 2, 3, 4, 5, 6}, {2, 1, 3, 4, 5, 6}, {3, 1, 2, 4, 5, 6},
            {4, 2, 3, 5, 6}, {5, 1, 3, 4, 6}, {6, 1, 2, 4, 5}};
        for (int[] row : another) {
            for (int i = 1; i < row.length; i++) {
                int kind = row[0];
                Edge.refused(() -> numbered(0, kind, 5), -6, "as", 0, row[i]);
            }
        }
        Edge.refused(Tables::full, NONE, "as", 6, 0);
        Edge.refused(Tables::bare, NONE, "as", 0, 0);
    }

    private static List<Consumer<LaidQuarrel>> changes() {
        List<Consumer<LaidQuarrel>> changes = new ArrayList<>();
        changes.add(x -> x.feed('l'));
        changes.add(x -> x.cellar());
        changes.add(x -> x.bottle(5, 3, 70));
        changes.add(x -> x.guest(60));
        changes.add(x -> x.row(0, 2, 9));
        changes.add(x -> x.row(0, 3, 1));
        changes.add(x -> x.set(0, 0, 100));
        changes.add(x -> x.set(0, 1, 1));
        changes.add(x -> x.pour(0, 0));
        changes.add(x -> x.both(0, 2, 1));
        changes.add(x -> x.pass(1));
        changes.add(x -> x.see(0, 40, 1));
        changes.add(x -> x.see(-1, 0, 0));
        changes.add(x -> x.evening(3, 2, 0));
        changes.add(x -> x.evening(-1, 0, 0));
        changes.add(x -> x.book(1, 7));
        changes.add(x -> x.book(-1, 0));
        // as many as there were, but others
        changes.add(x -> {
            x.cellar();
            "xxxxxx".chars().forEach(x::feed);
        });
        changes.add(x -> {
            x.see(-1, 0, 0);
            x.see(0, 1, 1);
            x.see(2, 2, 2);
        });
        changes.add(x -> {
            x.evening(-1, 0, 0);
            x.evening(0, 0, 0);
            x.evening(3, 2, 0);
        });
        changes.add(x -> {
            x.book(-1, 0);
            x.book(0, 1);
            x.book(1, 2);
        });
        return changes;
    }

    /** THE IMAGE of this moment; the TAPE is one that reads as a CELLAR. */
    private static LaidQuarrel imaged() {
        LaidQuarrel x = Tables.laid();
        x.cellar();
        "calm 5".chars().forEach(x::feed);
        x.image();
        return x;
    }

    private static void imageAndUndo() {
        Edge.of(TERMS, "THE IMAGE: all that there is (but THE IMAGE and THE TRACE).");
        String want = Whole.of(imaged());
        int number = 0;
        for (Consumer<LaidQuarrel> change : changes()) {
            String name = "change " + number++;
            LaidQuarrel x = imaged();
            change.accept(x);
            Edge.holds(name + " can be seen", !Whole.of(x).equals(want));
            LaidQuarrel y = imaged();
            change.accept(y);
            y.undo();
            Edge.same(name + " is undone", Whole.of(y), want);
        }
        LaidQuarrel all = imaged();
        for (int round = 0; round < 3; round++) {
            changes().forEach(change -> change.accept(all));
            Edge.due(all, 3, "undo");
        }
        Edge.same("all is undone, again and again", Whole.of(all), want);
        LaidQuarrel traced = imaged();
        traced.act(0, UTTERS, 3);
        traced.undo();
        traced(traced, 1);
        traced.act(9, UTTERS, 3);
        traced.undo();
        traced(traced);
    }

    private static void promises36And37() {
        Edge.of("Promise 36", "THE IMAGE is taken: how many BOTTLES there are.");
        Edge.due(Tables.bare(), 0, "image");
        Edge.due(Tables.laid(), 3, "image");
        Edge.due(Tables.full(), 6, "image");
        LaidQuarrel x = Tables.untraced();
        x.image();
        x.undo();
        LaidQuarrel y = Tables.untraced();
        x.evening(-1, 0, 0);
        y.evening(-1, 0, 0);
        x.image();
        y.image();
        Edge.same("nothing else is otherwise", Whole.of(x), Whole.of(y));
        LaidQuarrel z = Tables.bare();
        z.image();
        z.bottle(0, 0, 0);
        Edge.due(z, 1, "image");
        z.bottle(0, 0, 0);
        Edge.of("Promise 37", "All is as THE IMAGE: how many BOTTLES.");
        Edge.due(z, 1, "undo");
        Edge.due(z, 1, "undo");
        Edge.due(z, 1, "count", 0);
        Edge.due(z, 1, "bottle", 6, 4, 20);
        int[] of = {6, 4, 20, 0, 0, 0, 0, 20};
        for (int what = 0; what < of.length; what++) {
            Edge.due(z, of[what], "of", 1, what);
        }
        LaidQuarrel full = Tables.full();
        Edge.due(full, 6, "undo");
        LaidQuarrel none = Tables.bare();
        none.image();
        none.bottle(0, 0, 0);
        none.guest(5);
        Check.read(none, "calm 5;peace 6");
        Edge.due(none, 0, "undo");
        Edge.same("all is as new", Whole.of(none), Whole.of(imagedBare()));
        LaidQuarrel late = Tables.bare();
        late.image();
        late.pass(60);
        Edge.due(late, 0, "undo");
        Edge.due(late, 1, "pass", 1);
        Edge.of("Promise 37", "STATE: there is none.");
        Edge.refused(Tables::bare, STATE, "undo");
        Supplier<LaidQuarrel> withoutImage = Tables::late;
        Edge.refused(withoutImage, STATE, "undo");
    }

    private static LaidQuarrel imagedBare() {
        LaidQuarrel x = new LaidQuarrel();
        x.image();
        return x;
    }

    private static void promise38() {
        Edge.of("Promise 38", "0 BOTTLES, 1 CELLARS, 2 of SEEN, 3 of the EVENING, 4 rows of BOOK, 5 signs of THE TAPE, "
            + "6 bodies that ran in the latest act() (all, kept or not), 7 GUESTS.");
        int[] laid = {3, 1, 2, 2, 2, 2, 7, 2};
        int[] full = {6, 5, 5, 8, 8, 100, 5, 4};
        for (int what = 0; what < 8; what++) {
            Edge.due(Tables.bare(), 0, "count", what);
            Edge.due(Tables.laid(), laid[what], "count", what);
            Edge.due(Tables.full(), full[what], "count", what);
        }
        Edge.of("Promise 38", "NONE.");
        for (int what : new int[] {Edge.LEAST, -1, 8, Edge.MOST}) {
            Edge.refused(Tables::laid, NONE, "count", what);
            Edge.refused(Tables::bare, NONE, "count", what);
        }
    }

    private static void toTheLastCall() {
        Edge.of("What it is", "An object is used for at most 512 calls after it has been made");
        LaidQuarrel x = new LaidQuarrel();
        x.image();
        for (int call = 2; call < 512; call += 2) {
            Edge.due(x, 0, "bottle", call % 7, 3, 50);
            Edge.due(x, 0, "undo");
        }
        Edge.due(x, 0, "bottle", 6, 3, 50);
        LaidQuarrel y = Tables.saying(99, 50);
        Check.read(y, "calm 1");
        for (int call = 10; call < 512; call++) {
            Edge.due(y, 0, "act", 0, UTTERS, 0);
        }
        Edge.due(y, 39, "on", 60, 20);
    }

    public static void main(String[] args) {
        toTheLastCall();
        bodies();
        actsWrap();
        whichBodiesRun();
        promises33And34();
        promise35();
        imageAndUndo();
        promises36And37();
        promise38();
        Check.end("EdgesOfActsTest");
    }
}
