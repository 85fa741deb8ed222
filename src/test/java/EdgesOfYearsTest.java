/** The edges that "Terms" 2 names of YEARS to come, and those of promises 14 to 17. */
public final class EdgesOfYearsTest {
    private static final String TERMS = "Terms 2";
    private static final int NONE = LaidQuarrel.NONE;

    private static LaidQuarrel lateAndTold() {
        LaidQuarrel x = Tables.late();
        x.see(0, -20, 20);
        for (int r = 0; r < 8; r++) {
            x.evening(0, 0, 0);
        }
        return x;
    }

    private static void beyondTheLastYear() {
        Edge.of(TERMS, "All that follows is asked, goes on from how all is (YEAR beyond 9999, too), and changes "
            + "nothing.");
        LaidQuarrel x = lateAndTold();
        Edge.due(x, LaidQuarrel.STATE, "pass", 1);
        Edge.due(x, -1, "on", 59, 10);
        Edge.due(x, 0, "on", 60, 10);
        Edge.due(x, -30, "on", 1, 0);
        Edge.due(x, 98, "on", 1, 20);
        Edge.due(x, 39, "on", 60, 20);
        Edge.due(x, 39, "on", 60, 1);
        Edge.due(x, 60, "when", 0, 0);
        Edge.due(x, 0, "when", 0, 1);
        Edge.due(x, 60, "ripe", 0);
        Edge.due(x, 2, "old", 0, 0);
        Edge.due(x, 0, "old", 0, 1);
        Edge.due(x, 10, "firm", 0, 0);
        Edge.due(x, 1, "whose", -10, 40);
        Edge.due(x, -1, "mean", 58, 0);
        Edge.due(x, 0, "mean", 60, 0);
        Edge.due(x, 91, "done", 0);
        Edge.due(x, -26, "done", 1);
        Edge.due(x, 9999, "told", 0);
        Edge.due(x, 0, "of", 0, 3);
        Edge.due(x, 99, "mood", 0);
        Edge.same("nothing is changed", Whole.of(x), Whole.of(lateAndTold()));
    }

    private static LaidQuarrel table() {
        LaidQuarrel x = new LaidQuarrel();
        x.bottle(0, 0, 40);
        x.bottle(1, 0, -40);
        x.bottle(0, 0, 25);
        x.guest(30);
        x.guest(-8);
        x.pour(2, 0);
        Check.read(x, "calm 2");
        return x;
    }

    private static void onYears() {
        Edge.of(TERMS, "ON n YEARS (0 .. 60): what one SAYS; what all that are not EMPTY SAY, together; MOOD of one; "
            + "MOOD of all, together.");
        LaidQuarrel x = table();
        int[] whats = {0, 1, 10, 11, 12, 20, 21};
        int[][] nThen = {{0, 0, 47, 40, -40, 25, 55, -8}, {1, 0, 47, 40, -40, 25, 53, -6},
            {3, -1, 47, 39, -40, 25, 49, -2}, {4, -1, 47, 38, -39, 25, 47, 0}, {5, -1, 45, 38, -39, 25, 45, 0},
            {27, -7, 1, 27, -34, 25, 1, 0}, {28, -7, 0, 26, -33, 25, 0, 0}, {59, -15, 0, 11, -26, 25, 0, 0},
            {60, -15, 0, 10, -25, 25, 0, 0}};
        for (int[] row : nThen) {
            for (int i = 0; i < whats.length; i++) {
                Edge.due(x, row[i + 1], "on", row[0], whats[i]);
            }
        }
        for (int years : new int[] {139, 140, 198, 199}) {
            LaidQuarrel y = Tables.one(0, 0, 50, years);
            Check.read(y, "sharpen 9 b=0");
            Edge.due(y, 41, "on", 60, 10);
            Edge.due(y, 41, "on", 60, 0);
        }
        LaidQuarrel z = Tables.one(0, 0, 50, 199);
        Check.read(z, "sharpen 9 b=0;soften 30 y>19");
        Edge.due(z, 41, "on", 1, 10);
        Edge.due(z, 41, "on", 60, 0);
        LaidQuarrel calm = Tables.bare();
        calm.guest(99);
        calm.guest(-99);
        calm.guest(5);
        Check.read(calm, "calm 99");
        Edge.due(calm, 99, "on", 0, 20);
        Edge.due(calm, 0, "on", 1, 20);
        Edge.due(calm, 0, "on", 1, 21);
        Edge.due(calm, 0, "on", 1, 22);
        Edge.due(calm, 0, "on", 60, 1);
        Edge.due(calm, 5, "on", 0, 1);
    }

    private static void promise14() {
        Edge.of("Promise 14", "ON: what 0 all SAY, 1 MOOD of all, 10 and b what BOTTLE b SAYS, 20 and g MOOD of "
            + "guest g.");
        LaidQuarrel x = Tables.full();
        for (int b = 0; b < 6; b++) {
            Edge.due(x, x.of(b, 7), "on", 0, 10 + b);
        }
        for (int g = 0; g < 4; g++) {
            Edge.due(x, x.mood(g), "on", 0, 20 + g);
        }
        Edge.due(x, x.told(4), "on", 0, 0);
        Edge.due(x, x.told(5), "on", 0, 1);
        Edge.of("Promise 14", "-10001: NONE; -10002: BAD: n.");
        int[] none = {Edge.LEAST, Edge.LEAST + 10, Edge.LEAST + 20, -1, 2, 9, 13, 15, 16, 19, 22, 23, 24, 30,
            Edge.MOST};
        for (int what : none) {
            Edge.refused(Tables::laid, -10001, "on", 0, what);
            Edge.refused(Tables::laid, -10001, "on", 61, what);
        }
        for (int n : new int[] {Edge.LEAST, -1, 61, Edge.MOST}) {
            for (int what : new int[] {0, 1, 10, 12, 20, 21}) {
                Edge.refused(Tables::laid, -10002, "on", n, what);
            }
            Edge.refused(Tables::laid, -10001, "on", n, 13);
            Edge.refused(Tables::laid, -10001, "on", n, -1);
        }
        Edge.refused(Tables::full, -10001, "on", 0, 16);
        Edge.refused(Tables::full, -10001, "on", 0, 24);
        Edge.refused(Tables::bare, -10001, "on", 0, 10);
        Edge.refused(Tables::bare, -10001, "on", 0, 20);
        Edge.due(Tables.bare(), 0, "on", 60, 0);
        Edge.due(Tables.bare(), 0, "on", 0, 1);
    }

    private static void when(LaidQuarrel x, int behind, int much) {
        Edge.due(x, behind, "when", 0, 0);
        Edge.due(x, much, "when", 0, 1);
    }

    private static void whenMost() {
        Edge.of(TERMS, "WHEN of one: behind how many of 0 .. 60 YEARS it SAYS most (of several the first); how much.");
        when(Tables.one(0, 0, 0, 0), 0, 0);
        when(Tables.one(0, 0, 50, 0), 0, 50);
        when(Tables.one(0, 0, 1, 0), 0, 1);
        when(Tables.one(0, 0, -1, 0), 2, 0);
        when(Tables.one(0, 0, -1, 1), 1, 0);
        when(Tables.one(0, 0, -29, 0), 58, 0);
        when(Tables.one(0, 0, -30, 0), 60, 0);
        when(Tables.one(0, 0, -31, 0), 60, -1);
        when(Tables.one(0, 0, -99, 0), 60, -69);
        when(Tables.one(0, 0, -99, 1), 59, -69);
        when(Tables.one(0, 0, -99, 139), 59, 0);
        when(Tables.one(0, 0, -99, 199), 0, 0);
        when(Tables.one(4, 9, -60, 0), 40, -50);
        when(Tables.one(4, 9, -60, 41), 59, -44);
        LaidQuarrel late = Tables.one(0, 0, 80, 0);
        Check.read(late, "sharpen 10 y=6");
        late.set(0, 0, 0);
        when(late, 0, 80);
        late.set(0, 0, 1);
        when(late, 0, 80);
        late.set(0, 0, 2);
        when(late, 58, 80);
        late.set(0, 0, 59);
        when(late, 1, 80);
        late.set(0, 0, 60);
        when(late, 0, 80);
        LaidQuarrel empty = Tables.one(0, 0, -30, 0);
        empty.pour(0, 0);
        when(empty, 0, -30);
    }

    private static void promise15() {
        Edge.of("Promise 15", "WHEN: what 0 behind how many, 1 how much.");
        LaidQuarrel x = Tables.late();
        Edge.due(x, 60, "when", 0, 0);
        Edge.due(x, 0, "when", 0, 1);
        Edge.of("Promise 15", "-10001: NONE.");
        int[][] none = {{0, -1}, {0, 2}, {0, Edge.LEAST}, {0, Edge.MOST}, {-1, 0}, {3, 0}, {Edge.LEAST, 1},
            {Edge.MOST, 1}, {3, 2}};
        for (int[] a : none) {
            Edge.refused(Tables::laid, -10001, "when", a);
        }
        Edge.refused(Tables::full, -10001, "when", 6, 0);
        Edge.refused(Tables::bare, -10001, "when", 0, 0);
    }

    private static void ripeBehind() {
        Edge.of(TERMS, "RIPE of one: the fewest YEARS (0 .. 60) behind which it SAYS 0 or more (-5: not by then).");
        Edge.due(Tables.one(0, 0, 99, 0), 0, "ripe", 0);
        Edge.due(Tables.one(0, 0, 0, 0), 0, "ripe", 0);
        Edge.due(Tables.one(0, 0, -1, 0), 2, "ripe", 0);
        Edge.due(Tables.one(0, 0, -1, 1), 1, "ripe", 0);
        Edge.due(Tables.one(0, 0, -1, 2), 0, "ripe", 0);
        Edge.due(Tables.one(0, 0, -29, 0), 58, "ripe", 0);
        Edge.due(Tables.one(0, 0, -30, 0), 60, "ripe", 0);
        Edge.due(Tables.one(0, 0, -31, 0), -5, "ripe", 0);
        Edge.due(Tables.one(0, 0, -31, 1), -5, "ripe", 0);
        Edge.due(Tables.one(0, 0, -31, 2), 60, "ripe", 0);
        Edge.due(Tables.one(2, 0, -60, 0), 60, "ripe", 0);
        Edge.due(Tables.one(2, 0, -61, 0), -5, "ripe", 0);
        Edge.due(Tables.one(1, 0, -15, 0), 60, "ripe", 0);
        Edge.due(Tables.one(1, 0, -16, 0), -5, "ripe", 0);
        Edge.due(Tables.one(4, 1, -10, 0), 40, "ripe", 0);
        Edge.due(Tables.one(4, 1, -10, 41), -5, "ripe", 0);
        Edge.due(Tables.one(4, 1, -11, 0), -5, "ripe", 0);
        Edge.due(Tables.one(4, 0, -11, 0), 44, "ripe", 0);
        LaidQuarrel empty = Tables.one(0, 0, -1, 0);
        empty.pour(0, 0);
        Edge.due(empty, -5, "ripe", 0);
    }

    private static void promise16() {
        Edge.of("Promise 16", "RIPE; -5.");
        Edge.due(Tables.late(), 60, "ripe", 0);
        Edge.due(Tables.laid(), -5, "ripe", 2);
        Edge.of("Promise 16", "NONE.");
        for (int b : new int[] {Edge.LEAST, -1, 3, Edge.MOST}) {
            Edge.refused(Tables::laid, NONE, "ripe", b);
        }
        Edge.refused(Tables::full, NONE, "ripe", 6);
        Edge.refused(Tables::bare, NONE, "ripe", 0);
    }

    private static LaidQuarrel row(int word, int... row) {
        LaidQuarrel x = Tables.one(6, 0, word, 0);
        for (int k = 0; k < row.length; k++) {
            x.row(0, k, row[k]);
        }
        return x;
    }

    private static void liesBest() {
        Edge.of(TERMS, "LIES of one: the QUARTER (0 .. 3) by which, were it so now, it SAYS most (of several the "
            + "first).");
        Edge.due(Tables.one(0, 0, 20, 0), 0, "lies", 0);
        Edge.due(Tables.one(3, 0, 20, 0), 0, "lies", 0);
        Edge.due(Tables.one(3, 0, -20, 0), 1, "lies", 0);
        Edge.due(Tables.one(3, 0, -20, 40), 0, "lies", 0);
        Edge.due(Tables.one(3, 0, 0, 0), 0, "lies", 0);
        Edge.due(row(0, 9, 9, 9, 9), 0, "lies", 0);
        Edge.due(row(0, 8, 9, 9, 9), 1, "lies", 0);
        Edge.due(row(0, 8, 8, 9, 9), 2, "lies", 0);
        Edge.due(row(0, 8, 8, 8, 9), 3, "lies", 0);
        Edge.due(row(0, 9, 8, 7, 6), 0, "lies", 0);
        Edge.due(row(20, 0, 9, 0, 9), 0, "lies", 0);
        Edge.due(row(20, 0, 9, 1, 9), 2, "lies", 0);
        Edge.due(row(-20, 9, 1, 9, 1), 1, "lies", 0);
        Edge.due(row(-20, 9, 0, 9, 1), 3, "lies", 0);
        for (int q = 0; q < 4; q++) {
            LaidQuarrel x = Tables.one(0, 0, -20, 20);
            x.set(0, 1, 3 - q);
            Edge.due(x, 0, "lies", 0);
            Edge.due(x, 3 - q, "of", 0, 4);
            Check.read(x, "soften 2 q=" + q);
            Edge.due(x, q, "lies", 0);
            Edge.due(x, 3 - q, "of", 0, 4);
        }
        for (String beyond : new String[] {"q=4", "q>3", "q>4"}) {
            LaidQuarrel x = Tables.one(0, 0, -20, 20);
            Check.read(x, "soften 2 " + beyond);
            Edge.due(x, 0, "lies", 0);
        }
        LaidQuarrel empty = Tables.one(3, 0, -20, 0);
        empty.pour(0, 0);
        Edge.due(empty, 1, "lies", 0);
    }

    private static void promise17() {
        Edge.of("Promise 17", "LIES.");
        Edge.due(row(0, 0, 0, 0, 1), 3, "lies", 0);
        Edge.of("Promise 17", "NONE.");
        for (int b : new int[] {Edge.LEAST, -1, 3, Edge.MOST}) {
            Edge.refused(Tables::laid, NONE, "lies", b);
        }
        Edge.refused(Tables::full, NONE, "lies", 6);
        Edge.refused(Tables::bare, NONE, "lies", 0);
    }

    public static void main(String[] args) {
        beyondTheLastYear();
        onYears();
        promise14();
        whenMost();
        promise15();
        ripeBehind();
        promise16();
        liesBest();
        promise17();
        Check.end("EdgesOfYearsTest");
    }
}
