/** The edges that "Terms" 2 names of what is SEEN and of odds, and those of promises 23 to 28. */
public final class EdgesOfSeenTest {
    private static final String TERMS = "Terms 2";
    private static final int NONE = LaidQuarrel.NONE, BAD = LaidQuarrel.BAD, FULL = LaidQuarrel.FULL;
    private static final long NO = LaidQuarrel.NO;

    /** BOTTLE 0 with SEEN rows of it: what it SAYS, behind how many YEARS. */
    private static LaidQuarrel seen(LaidQuarrel x, int... saysBehind) {
        for (int i = 0; i + 1 < saysBehind.length; i += 2) {
            x.see(0, saysBehind[i], saysBehind[i + 1]);
        }
        return x;
    }

    private static void seenByHand() {
        Edge.of(TERMS, "SEEN told by hand: one and what it SAYS (-999 .. 999) behind n YEARS (0 .. 20) from now; "
            + "5 at most.");
        LaidQuarrel x = Tables.one(0, 0, 0, 0);
        int[][] rows = {{-999, 0}, {999, 20}, {-998, 19}, {998, 1}, {0, 0}};
        for (int r = 0; r < rows.length; r++) {
            Edge.due(x, r, "count", 2);
            Edge.due(x, BAD, "see", 0, -1000, 0);
            Edge.due(x, BAD, "see", 0, 1000, 0);
            Edge.due(x, BAD, "see", 0, 0, -1);
            Edge.due(x, BAD, "see", 0, 0, 21);
            Edge.due(x, r + 1, "see", 0, rows[r][0], rows[r][1]);
        }
        Edge.due(x, FULL, "see", 0, 0, 0);
        Edge.due(x, 5, "count", 2);
    }

    private static void promise23() {
        Edge.of("Promise 23", "What is SEEN comes: how many there are (bottle -1: none then, 0, whatever the others "
            + "are).");
        LaidQuarrel x = Tables.laid();
        Edge.due(x, 3, "see", 0, 48, 0);
        Edge.due(x, 4, "see", 1, 0, 20);
        int[][] others = {{0, 0}, {1000, 0}, {-1000, 21}, {Edge.LEAST, Edge.MOST}, {Edge.MOST, Edge.LEAST}, {0, -1}};
        for (int[] other : others) {
            Edge.due(x, 0, "see", -1, other[0], other[1]);
            Edge.due(x, 0, "count", 2);
            Edge.due(x, 100, "old", 0, 0);
            Edge.due(x, 1, "see", 0, 7, 3);
            LaidQuarrel full = Tables.full();
            Edge.due(full, 0, "see", -1, other[0], other[1]);
            Edge.due(full, 0, "count", 2);
        }
        Edge.due(Tables.bare(), 0, "see", -1, 0, 0);
        Edge.of("Promise 23", "NONE; BAD: says, n; FULL: 5.");
        int[][] none = {{-2, 0, 0}, {3, 0, 0}, {Edge.LEAST, 0, 0}, {Edge.MOST, 0, 0}, {3, 1000, 0}, {-2, 0, 21}};
        for (int[] a : none) {
            Edge.refused(Tables::laid, NONE, "see", a);
        }
        int[][] bad = {{0, -1000, 0}, {0, 1000, 0}, {0, Edge.LEAST, 0}, {0, Edge.MOST, 0}, {0, 0, -1}, {0, 0, 21},
            {0, 0, Edge.LEAST}, {0, 0, Edge.MOST}, {2, 1000, 21}};
        for (int[] a : bad) {
            Edge.refused(Tables::laid, BAD, "see", a);
            Edge.refused(Tables::full, BAD, "see", a);
        }
        Edge.refused(Tables::full, FULL, "see", 0, 0, 0);
        Edge.refused(Tables::full, FULL, "see", 5, -999, 20);
        Edge.refused(Tables::full, NONE, "see", 6, 0, 0);
        Edge.refused(Tables::full, NONE, "see", -2, 1000, 21);
        Edge.refused(Tables::bare, NONE, "see", 0, 0, 0);
    }

    private static void old(LaidQuarrel x, int many, int least) {
        Edge.due(x, many, "old", 0, 0);
        Edge.due(x, least, "old", 0, 1);
    }

    private static void oldOfOne() {
        Edge.of(TERMS, "OLD of one: how many numbers (0 .. 99) there are by which, were so many its YEARS now, all of "
            + "SEEN is so; the least (-5: none).");
        old(Tables.one(0, 0, 60, 0), 100, 0);
        old(seen(Tables.one(0, 0, 60, 150), 60, 0), 2, 0);
        old(seen(Tables.one(0, 0, 60, 150), 11, 0), 2, 98);
        old(seen(Tables.one(0, 0, 60, 100), 10, 0), 0, -5);
        old(seen(Tables.one(0, 0, 60, 0), 61, 0), 0, -5);
        old(seen(Tables.one(0, 0, 60, 0), 50, 0), 2, 20);
        old(seen(Tables.one(0, 0, 60, 0), 50, 0, 49, 1), 1, 21);
        old(seen(Tables.one(0, 0, 60, 0), 49, 1, 50, 0), 1, 21);
        old(seen(Tables.one(0, 0, 60, 0), 50, 0, 49, 1, 50, 0, 49, 2, 48, 3), 1, 21);
        old(seen(Tables.one(0, 0, 60, 0), 50, 0, 49, 1, 50, 0, 49, 2, 47, 3), 0, -5);
        old(seen(Tables.one(0, 0, 60, 0), 50, 20), 2, 0);
        old(seen(Tables.one(0, 0, 60, 0), 51, 20), 0, -5);
        old(seen(Tables.one(0, 0, 60, 0), 1, 20), 2, 98);
        old(seen(Tables.one(0, 0, 60, 0), 0, 20), 0, -5);
        old(seen(Tables.one(0, 0, 10, 0), 0, 0), 80, 20);
        old(seen(Tables.one(4, 9, 0, 0), -9, 0), 59, 41);
        old(seen(Tables.one(4, 9, 0, 0), 0, 0), 41, 0);
        LaidQuarrel other = seen(Tables.one(0, 0, 60, 0), 50, 0);
        other.bottle(0, 0, -10);
        other.set(1, 0, 4);
        other.see(1, -8, 0);
        old(other, 2, 20);
        Edge.due(other, 0, "old", 1, 0);
        Edge.due(other, -5, "old", 1, 1);
        other.see(1, -7, 1);
        old(other, 0, -5);
        LaidQuarrel empty = seen(Tables.emptied(Tables.one(0, 0, 60, 0), 0), 50, 20);
        old(empty, 2, 20);
        Edge.due(empty, 0, "of", 0, 3);
    }

    private static void promise24() {
        Edge.of("Promise 24", "OLD: what 0 how many, 1 the least; -5.");
        old(seen(Tables.one(1, 0, -60, 3), -59, 0), 4, 4);
        old(seen(Tables.one(1, 0, -60, 3), 5, 0), 0, -5);
        Edge.of("Promise 24", "NONE.");
        refusedAlike("old");
    }

    private static void refusedAlike(String name) {
        int[][] none = {{-1, 0}, {3, 0}, {Edge.LEAST, 0}, {Edge.MOST, 1}, {0, -1}, {0, 2}, {0, Edge.LEAST},
            {0, Edge.MOST}, {3, 2}};
        for (int[] a : none) {
            Edge.refused(Tables::laid, NONE, name, a);
        }
        Edge.refused(Tables::full, NONE, name, 6, 0);
        Edge.refused(Tables::bare, NONE, name, 0, 0);
    }

    private static void firm(LaidQuarrel x, int many, int least) {
        Edge.due(x, many, "firm", 0, 0);
        Edge.due(x, least, "firm", 0, 1);
    }

    private static void firmOfOne() {
        Edge.of(TERMS, "FIRM of one: how many numbers v (0 .. 9) likewise; the least (-5: none).");
        firm(Tables.one(4, 5, 0, 41), 10, 0);
        firm(seen(Tables.one(4, 5, 0, 41), 0, 0), 1, 0);
        firm(seen(Tables.one(4, 5, 0, 41), -1, 0), 1, 1);
        firm(seen(Tables.one(4, 5, 0, 41), -9, 0), 1, 9);
        firm(seen(Tables.one(4, 5, 0, 41), -10, 0), 0, -5);
        firm(seen(Tables.one(4, 5, 0, 41), 1, 0), 0, -5);
        firm(seen(Tables.one(4, 5, 0, 40), 0, 0), 10, 0);
        firm(seen(Tables.one(4, 5, 0, 40), -3, 1), 1, 3);
        firm(seen(Tables.one(4, 5, 0, 40), 0, 0, -3, 1), 1, 3);
        firm(seen(Tables.one(4, 5, 0, 40), -2, 1, -3, 1), 0, -5);
        firm(seen(Tables.one(4, 5, 0, 21), -7, 20), 1, 7);
        firm(seen(Tables.one(4, 5, 0, 20), -7, 20), 0, -5);
        LaidQuarrel byText = Tables.one(0, 9, 20, 20);
        Check.read(byText, "sharpen 10 v>3");
        firm(seen(byText, 20, 0), 6, 4);
        byText.see(-1, 0, 0);
        firm(seen(byText, 10, 0), 4, 0);
        LaidQuarrel other = seen(Tables.one(4, 5, 0, 41), -3, 0);
        other.bottle(4, 2, 0);
        other.set(1, 0, 41);
        other.see(1, -2, 0);
        firm(other, 1, 3);
        other.see(1, -4, 0);
        firm(other, 0, -5);
        LaidQuarrel empty = seen(Tables.emptied(Tables.one(4, 5, 0, 40), 0), -3, 1);
        firm(empty, 0, -5);
    }

    private static void promise25() {
        Edge.of("Promise 25", "FIRM: what 0 how many, 1 the least; -5.");
        firm(seen(Tables.one(5, 9, 30, 31), -4, 0), 1, 4);
        firm(seen(Tables.one(5, 9, 30, 31), -10, 0), 0, -5);
        Edge.of("Promise 25", "NONE.");
        refusedAlike("firm");
    }

    private static void whose() {
        Edge.of(TERMS, "WHOSE of s and n (-999 .. 999; 0 .. 40): those, as bits, that SAY s behind n YEARS.");
        LaidQuarrel x = Tables.saying(0, 10, 10, 5, 0, -10, 20);
        int[][] sNThose = {{10, 0, 3}, {5, 0, 4}, {0, 0, 8}, {-10, 0, 16}, {20, 0, 32}, {9, 0, 0}, {9, 2, 3}, {9, 3, 3},
            {10, 1, 3}, {10, 2, 0}, {0, 10, 12}, {0, 20, 31}, {0, 39, 31}, {1, 39, 32}, {0, 40, 63}, {1, 40, 0},
            {-999, 0, 0}, {999, 40, 0}};
        for (int[] row : sNThose) {
            Edge.due(x, row[2], "whose", row[0], row[1]);
        }
        Edge.due(Tables.saying(0, 7, 7, 7, 7, 7, 7), 63, "whose", 7, 0);
        LaidQuarrel empty = Tables.emptied(Tables.saying(0, 10, 10), 0);
        Edge.due(empty, 3, "whose", 10, 0);
        Edge.due(empty, 1, "whose", 10, 40);
        Edge.due(empty, 2, "whose", 0, 40);
        Edge.of("Promise 26", "WHOSE (bits).");
        Edge.due(Tables.saying(0, 1, 2, 1, 2, 1, 2), 42, "whose", 2, 0);
        Edge.due(Tables.bare(), 0, "whose", 0, 0);
        Edge.of("Promise 26", "BAD.");
        for (int s : new int[] {Edge.LEAST, -1000, 1000, Edge.MOST}) {
            Edge.refused(Tables::laid, BAD, "whose", s, 0);
            Edge.refused(Tables::bare, BAD, "whose", s, 41);
        }
        for (int n : new int[] {Edge.LEAST, -1, 41, Edge.MOST}) {
            Edge.refused(Tables::laid, BAD, "whose", 0, n);
            Edge.refused(Tables::full, BAD, "whose", -999, n);
        }
    }

    private static void fraction(LaidQuarrel x, String name, long above, long below, int... with) {
        int[] part = java.util.Arrays.copyOf(with, with.length + 1);
        Edge.due(x, above, name, part);
        part[with.length] = 1;
        Edge.due(x, below, name, part);
    }

    private static void odds() {
        Edge.of(TERMS, "ODDS of one of GUESTS and m (-99 .. 99): if any BOTTLE that is not EMPTY is POURED to it now, "
            + "each alike likely: how likely its MOOD is m or more then: a fraction in lowest terms "
            + "(NO: all are EMPTY).");
        LaidQuarrel x = Tables.saying(0, 10, 20, 30, 40, 50, 60);
        int[][] mAboveBelow = {{99, 0, 1}, {61, 0, 1}, {60, 1, 6}, {51, 1, 6}, {50, 1, 3}, {40, 1, 2}, {30, 2, 3},
            {20, 5, 6}, {11, 5, 6}, {10, 1, 1}, {-99, 1, 1}};
        for (int[] row : mAboveBelow) {
            fraction(x, "odds", row[1], row[2], 0, row[0]);
        }
        fraction(Tables.saying(90, 60), "odds", 1, 1, 0, 99);
        fraction(Tables.saying(90, 9), "odds", 1, 1, 0, 99);
        fraction(Tables.saying(90, 8), "odds", 0, 1, 0, 99);
        fraction(Tables.saying(-90, -60), "odds", 1, 1, 0, -99);
        fraction(Tables.saying(-90, -60), "odds", 0, 1, 0, -98);
        fraction(Tables.saying(-90, -8), "odds", 1, 1, 0, -98);
        fraction(Tables.emptied(Tables.saying(0, 10, 20, 30, 40), 3), "odds", 1, 3, 0, 30);
        fraction(Tables.emptied(Tables.saying(0, 10, 20, 30, 40), 3), "odds", 0, 1, 0, 40);
        fraction(Tables.emptied(Tables.saying(0, 10, 20, 30, 40), 3, 0, 1), "odds", 1, 1, 0, 30);
        fraction(Tables.emptied(Tables.saying(0, 10), 0), "odds", NO, NO, 0, 0);
        fraction(Tables.saying(0), "odds", NO, NO, 0, 0);
        Edge.of("Promise 27", "ODDS.");
        LaidQuarrel y = Tables.saying(5, 1, -1);
        y.guest(50);
        fraction(y, "odds", 1, 2, 0, 6);
        fraction(y, "odds", 1, 2, 1, 51);
        Edge.of("Promise 27", "NO: guest, m, part, all are EMPTY.");
        int[][] no = {{-1, 0, 0}, {2, 0, 0}, {Edge.LEAST, 0, 0}, {Edge.MOST, 0, 1}, {0, -100, 0}, {0, 100, 0},
            {0, Edge.LEAST, 1}, {0, Edge.MOST, 0}, {0, 0, -1}, {0, 0, 2}, {0, 0, Edge.LEAST}, {0, 0, Edge.MOST}};
        for (int[] a : no) {
            Edge.refused(Tables::laid, NO, "odds", a);
        }
        Edge.refused(Tables::full, NO, "odds", 4, 0, 0);
        Edge.refused(() -> Tables.emptied(Tables.saying(0, 10, 20), 0, 1), NO, "odds", 0, -99, 0);
        Edge.refused(() -> Tables.emptied(Tables.saying(0, 10, 20), 0, 1), NO, "odds", 0, 99, 1);
        Edge.refused(Tables::bare, NO, "odds", 0, 0, 0);
    }

    private static void mean() {
        Edge.of(TERMS, "MEAN of n (0 .. 60): what all that are not EMPTY SAY behind n YEARS in the mean: a fraction in "
            + "lowest terms, what is above the line maybe below 0 (NO likewise).");
        int[][] sumAboveBelow = {{0, 0, 1}, {1, 1, 6}, {2, 1, 3}, {3, 1, 2}, {4, 2, 3}, {5, 5, 6}, {6, 1, 1}, {9, 3, 2},
            {12, 2, 1}, {99, 33, 2}, {-1, -1, 6}, {-2, -1, 3}, {-3, -1, 2}, {-4, -2, 3}, {-6, -1, 1}, {-99, -33, 2}};
        for (int[] row : sumAboveBelow) {
            fraction(Tables.saying(0, 0, row[0], 0, 0, 0, 0), "mean", row[1], row[2], 0);
        }
        fraction(Tables.saying(0, 10, -10), "mean", 0, 1, 0);
        fraction(Tables.saying(0, 10, -15), "mean", -5, 2, 0);
        fraction(Tables.saying(0, 10), "mean", 10, 1, 0);
        fraction(Tables.saying(0, 31), "mean", 2, 1, 59);
        fraction(Tables.saying(0, 31, 30), "mean", 1, 2, 60);
        fraction(Tables.emptied(Tables.saying(0, 31, 30), 0), "mean", 0, 1, 60);
        fraction(Tables.emptied(Tables.saying(0, 31, 30), 1), "mean", 1, 1, 60);
        fraction(Tables.emptied(Tables.saying(0, 31), 0), "mean", NO, NO, 0);
        fraction(Tables.saying(0), "mean", NO, NO, 0);
        Edge.of("Promise 28", "MEAN.");
        fraction(Tables.saying(0, 1, 2, 4), "mean", 7, 3, 0);
        Edge.of("Promise 28", "NO: n, part, all are EMPTY.");
        int[][] no = {{-1, 0}, {61, 0}, {Edge.LEAST, 0}, {Edge.MOST, 1}, {0, -1}, {0, 2}, {0, Edge.LEAST},
            {60, Edge.MOST}};
        for (int[] a : no) {
            Edge.refused(Tables::laid, NO, "mean", a);
        }
        Edge.refused(() -> Tables.emptied(Tables.saying(0, 10, 20), 0, 1), NO, "mean", 0, 0);
        Edge.refused(() -> Tables.emptied(Tables.saying(0, 10, 20), 0, 1), NO, "mean", 60, 1);
        Edge.refused(Tables::bare, NO, "mean", 0, 0);
    }

    public static void main(String[] args) {
        seenByHand();
        promise23();
        oldOfOne();
        promise24();
        firmOfOne();
        promise25();
        whose();
        odds();
        mean();
        Check.end("EdgesOfSeenTest");
    }
}
