/** The edges that "Terms" 2 names of the EVENING and of BOOK, and those of promises 29 to 32. */
public final class EdgesOfEveningsTest {
    private static final String TERMS = "Terms 2";
    private static final int NONE = LaidQuarrel.NONE, BAD = LaidQuarrel.BAD, FULL = LaidQuarrel.FULL;

    /** Rows of what, BOTTLE and guest come to the EVENING. */
    private static LaidQuarrel evening(LaidQuarrel x, int... rows) {
        for (int i = 0; i + 2 < rows.length; i += 3) {
            x.evening(rows[i], rows[i + 1], rows[i + 2]);
        }
        return x;
    }

    private static void done(LaidQuarrel x, int moods, int says) {
        Edge.due(x, moods, "done", 0);
        Edge.due(x, says, "done", 1);
    }

    private static LaidQuarrel calm(LaidQuarrel x, int n) {
        Check.read(x, "calm " + n);
        return x;
    }

    private static void rowsOfAnEvening() {
        Edge.of(TERMS, "EVENING told by hand: rows of what 0 a YEAR goes (the others not looked at)");
        int[] others = {Edge.LEAST, -1, 0, 6, Edge.MOST};
        for (int bottle : others) {
            for (int guest : others) {
                Edge.due(new LaidQuarrel(), 1, "evening", 0, bottle, guest);
                done(evening(calm(Tables.saying(9, 5), 4), 0, bottle, guest, 0, guest, bottle), 1, 4);
            }
        }
        LaidQuarrel old = Tables.saying(0, 50, 50);
        old.set(0, 0, 198);
        Check.read(old, "sharpen 9 b<9");
        done(evening(old, 0, 0, 0), 0, 41 + 50);
        done(evening(old, 0, 0, 0), 0, 41 + 50);
        done(evening(calm(Tables.saying(5), 5), 0, 0, 0), 0, 0);
        done(evening(calm(Tables.saying(-6), 5), 0, 0, 0), -1, 0);
        done(evening(calm(Tables.saying(-4), 5), 0, 0, 0), 0, 0);
        Edge.of(TERMS, "1 one is POURED to one of GUESTS");
        done(evening(Tables.saying(90, 9, 7), 1, 0, 0), 99, 7);
        done(evening(Tables.saying(90, 10, 7), 1, 0, 0), 99, 7);
        done(evening(Tables.saying(90, 8, 7), 1, 0, 0), 98, 7);
        done(evening(Tables.saying(-90, -9, 7), 1, 0, 0), -99, 7);
        done(evening(Tables.saying(-90, -10, 7), 1, 0, 0), -99, 7);
        done(evening(Tables.saying(90, 30, -20), 1, 0, 0, 1, 1, 0), 79, 0);
        done(evening(Tables.saying(90, 30, -20), 1, 1, 0, 1, 0, 0), 99, 0);
        LaidQuarrel two = Tables.saying(1, 10, 20);
        two.guest(2);
        done(evening(two, 1, 1, 1), 23, 10);
        LaidQuarrel heldOne = Tables.saying(90, 20);
        heldOne.guest(0);
        done(evening(heldOne, 1, 0, 1), 110, 0);
        heldOne.evening(-1, 0, 0);
        done(evening(heldOne, 1, 0, 0), 99, 0);
        done(evening(calm(Tables.saying(0, 50, -20), 1), 1, 0, 0, 0, 0, 0, 0, 0, 0), 48, -19);
        Edge.of(TERMS, "2 one's QUARTER is 1 more (behind 3 comes 0; the guest not looked at)");
        int[] byQuarter = {20 + 1, -20 + 2, 20 + 3, -20 + 4};
        for (int q = 0; q < 4; q++) {
            LaidQuarrel x = new LaidQuarrel();
            x.bottle(6, 0, 20);
            x.set(0, 1, q);
            for (int k = 0; k < 4; k++) {
                x.row(0, k, k + 1);
            }
            for (int turns = 0; turns <= 4; turns++) {
                done(x, 0, byQuarter[(q + turns) % 4]);
                Edge.due(x, turns + 1, "evening", 2, 0, others[turns]);
            }
            Edge.due(x, q, "of", 0, 4);
        }
        Edge.of(TERMS, "3 one gets WORD 0 (likewise)");
        for (int guest : others) {
            done(evening(Tables.saying(0, 50, 7), 3, 0, guest), 0, 7);
        }
        done(evening(Tables.saying(0, -50, 7), 3, 1, 0), 0, -50);
        done(evening(Tables.saying(3, 50, 7), 3, 0, 0, 1, 0, 0), 3, 7);
        done(evening(Tables.saying(3, 50, 7), 1, 0, 0, 3, 0, 0), 53, 7);
        LaidQuarrel feud = new LaidQuarrel();
        feud.bottle(4, 9, 90);
        feud.set(0, 0, 40);
        done(evening(feud, 3, 0, 0), 0, 0);
        done(evening(feud, 0, 0, 0), 0, -9);
    }

    private static void eightAtMost() {
        Edge.of(TERMS, "8 at most; 1 passed over for what is EMPTY then.");
        LaidQuarrel x = calm(Tables.saying(99, 1), 1);
        for (int n = 1; n <= 8; n++) {
            Edge.due(x, n, "evening", 0, 0, 0);
            Edge.due(x, n, "count", 3);
            Edge.due(x, 99 - n, "done", 0);
        }
        Edge.due(x, FULL, "evening", 0, 0, 0);
        Edge.due(x, FULL, "evening", 1, 0, 0);
        Edge.due(x, 8, "count", 3);
        Edge.due(x, 91, "done", 0);
        done(evening(Tables.saying(0, 30, 4), 1, 0, 0, 1, 0, 0), 30, 4);
        done(evening(Tables.saying(0, 30, 4), 1, 0, 0, 2, 0, 0, 1, 0, 0, 1, 1, 0), 34, 0);
        LaidQuarrel empty = Tables.saying(0, 30, 4);
        empty.pour(0, 0);
        done(evening(empty, 1, 0, 0), 30, 4);
        Edge.due(empty, 2, "evening", 1, 0, 0);
        LaidQuarrel later = evening(Tables.saying(0, 30, 4), 1, 0, 0);
        done(later, 30, 4);
        later.pour(0, 0);
        done(later, 30, 4);
    }

    private static void promise29() {
        Edge.of("Promise 29", "A row comes to the EVENING: how many there are (what -1: none then, 0, whatever the "
            + "others are).");
        LaidQuarrel x = Tables.laid();
        Edge.due(x, 3, "evening", 0, 0, 0);
        Edge.due(x, 4, "evening", 1, 2, 1);
        Edge.due(x, 5, "evening", 2, 1, 0);
        Edge.due(x, 6, "evening", 3, 0, 0);
        int[][] others = {{0, 0}, {-1, -1}, {9, 9}, {Edge.LEAST, Edge.MOST}, {Edge.MOST, Edge.LEAST}};
        for (int[] other : others) {
            Edge.due(x, 0, "evening", -1, other[0], other[1]);
            Edge.due(x, 0, "count", 3);
            Edge.due(x, x.told(5), "done", 0);
            Edge.due(x, 1, "evening", 1, 0, 0);
            LaidQuarrel full = Tables.full();
            Edge.due(full, 0, "evening", -1, other[0], other[1]);
            Edge.due(full, 0, "count", 3);
        }
        Edge.due(Tables.bare(), 0, "evening", -1, 0, 0);
        Edge.of("Promise 29", "NONE: what, bottle (but by 0), guest (by 1); FULL: 8.");
        int[][] none = {{-2, 0, 0}, {4, 0, 0}, {Edge.LEAST, 0, 0}, {Edge.MOST, 0, 0}, {1, -1, 0}, {1, 3, 0},
            {2, -1, 0}, {2, 3, 0}, {3, -1, 0}, {3, 3, 0}, {1, Edge.LEAST, 0}, {2, Edge.MOST, 0}, {3, Edge.LEAST, 0},
            {1, 0, -1}, {1, 0, 2}, {1, 0, Edge.LEAST}, {1, 0, Edge.MOST}, {1, 3, 2}, {4, 3, 2}};
        for (int[] a : none) {
            Edge.refused(Tables::laid, NONE, "evening", a);
        }
        for (int what : new int[] {0, 2, 3}) {
            Edge.due(Tables.laid(), 3, "evening", what, 2, -1);
            Edge.due(Tables.laid(), 3, "evening", what, 2, 2);
        }
        Edge.due(Tables.laid(), 3, "evening", 0, -1, 0);
        Edge.due(Tables.laid(), 3, "evening", 0, 3, 2);
        Edge.due(Tables.laid(), 3, "evening", 1, 2, 1);
        for (int what = 0; what <= 3; what++) {
            Edge.refused(Tables::full, FULL, "evening", what, 5, 3);
        }
        Edge.refused(Tables::full, NONE, "evening", 4, 0, 0);
        Edge.refused(Tables::full, NONE, "evening", -2, 0, 0);
        Edge.refused(Tables::full, NONE, "evening", 2, 6, 0);
        Edge.refused(Tables::full, NONE, "evening", 1, 0, 4);
        Edge.refused(Tables::full, FULL, "evening", 0, 6, 4);
        Edge.refused(Tables::full, FULL, "evening", 2, 0, 4);
    }

    private static void doneByRows() {
        Edge.of(TERMS, "DONE: MOOD of all, together; what all that are not EMPTY SAY, together.");
        done(new LaidQuarrel(), 0, 0);
        done(Tables.saying(7), 7, 0);
        LaidQuarrel x = Tables.saying(99, 99, 99, 99, 99, 99, 99);
        x.guest(99);
        x.guest(99);
        x.guest(99);
        done(x, 396, 594);
        done(evening(x, 1, 0, 0, 1, 5, 3), 396, 396);
        Edge.due(x, 396, "told", 5);
        Edge.due(x, 63, "told", 3);
        x.pour(3, 0);
        done(x, 396, 297);
        done(evening(Tables.bare(), 0, 0, 0), 0, 0);
        Edge.of("Promise 30", "DONE: what 0 MOOD of all, 1 what all SAY.");
        done(evening(Tables.saying(-9, 5, 6), 1, 1, 0), -3, 5);
        Edge.of("Promise 30", "-10001: NONE.");
        for (int what : new int[] {Edge.LEAST, -1, 2, Edge.MOST}) {
            Edge.refused(Tables::laid, -10001, "done", what);
            Edge.refused(Tables::bare, -10001, "done", what);
        }
    }

    private static void bookByHand() {
        Edge.of(TERMS, "BOOK told by hand: BOTTLES and what they SAY (-999 .. 999); 8 at most.");
        LaidQuarrel x = Tables.saying(0, 5);
        int[] says = {-999, 999, -998, 998, 0, 5, -1, 1};
        for (int r = 0; r < says.length; r++) {
            Edge.due(x, r, "count", 4);
            Edge.due(x, BAD, "book", 0, -1000);
            Edge.due(x, BAD, "book", 0, 1000);
            Edge.due(x, r + 1, "book", 0, says[r]);
        }
        Edge.due(x, FULL, "book", 0, 0);
        Edge.due(x, 8, "count", 4);
        Edge.of(TERMS, "LOOKED at: the first by which it is otherwise now (-5: none).");
        LaidQuarrel y = Tables.saying(0, 5, 6);
        Edge.due(y, -5, "looked");
        for (int r = 0; r < 7; r++) {
            y.book(r % 2, 5 + r % 2);
            Edge.due(y, -5, "looked");
        }
        y.book(1, 5);
        Edge.due(y, 7, "looked");
        y.set(1, 0, 2);
        Edge.due(y, 1, "looked");
        y.set(0, 0, 2);
        Edge.due(y, 0, "looked");
        y.set(0, 0, 0);
        y.set(1, 0, 1);
        Edge.due(y, 7, "looked");
        y.pour(0, 0);
        Edge.due(y, 7, "looked");
        y.book(-1, 0);
        Edge.due(y, -5, "looked");
    }

    private static void promises31And32() {
        Edge.of("Promise 31", "A row comes to BOOK: how many there are (bottle -1: none then, 0, whatever the other "
            + "is).");
        LaidQuarrel x = Tables.laid();
        Edge.due(x, 3, "book", 0, 7);
        Edge.due(x, 4, "book", 1, -7);
        for (int says : new int[] {Edge.LEAST, -1000, 0, 1000, Edge.MOST}) {
            Edge.due(x, 0, "book", -1, says);
            Edge.due(x, 0, "count", 4);
            Edge.due(x, -5, "looked");
            Edge.due(x, 1, "book", 2, 0);
            LaidQuarrel full = Tables.full();
            Edge.due(full, 0, "book", -1, says);
            Edge.due(full, 0, "count", 4);
        }
        Edge.due(Tables.bare(), 0, "book", -1, 0);
        Edge.of("Promise 31", "NONE; BAD: says; FULL: 8.");
        int[][] none = {{-2, 0}, {3, 0}, {Edge.LEAST, 0}, {Edge.MOST, 0}, {3, 1000}, {-2, -1000}};
        for (int[] a : none) {
            Edge.refused(Tables::laid, NONE, "book", a);
        }
        for (int says : new int[] {Edge.LEAST, -1000, 1000, Edge.MOST}) {
            Edge.refused(Tables::laid, BAD, "book", 0, says);
            Edge.refused(Tables::full, BAD, "book", 5, says);
            Edge.refused(Tables::full, NONE, "book", 6, says);
        }
        Edge.refused(Tables::full, FULL, "book", 0, -999);
        Edge.refused(Tables::full, FULL, "book", 5, 999);
        Edge.refused(Tables::full, NONE, "book", 6, 0);
        Edge.refused(Tables::bare, NONE, "book", 0, 0);
        Edge.of("Promise 32", "LOOKED at; -5.");
        Edge.due(Tables.bare(), -5, "looked");
        Edge.due(Tables.full(), 3, "looked");
    }

    public static void main(String[] args) {
        rowsOfAnEvening();
        eightAtMost();
        promise29();
        doneByRows();
        bookByHand();
        promises31And32();
        Check.end("EdgesOfEveningsTest");
    }
}
