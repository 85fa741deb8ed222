/** The edges that "Terms" 2 names of what to pour, and those of promises 18 to 22. */
public final class EdgesOfPouringTest {
    private static final String TERMS = "Terms 2";
    private static final int NONE = LaidQuarrel.NONE, BAD = LaidQuarrel.BAD;

    private static void choose() {
        Edge.of(TERMS, "CHOOSE of one of GUESTS and m (-99 .. 99)");
        Edge.due(Tables.saying(90, 9), 1, "choose", 0, 99);
        Edge.due(Tables.saying(-90, -9), 1, "choose", 0, -99);
        Edge.due(Tables.saying(99, 9), 0, "choose", 0, 99);
        Edge.due(Tables.saying(-99, 9), 0, "choose", 0, -99);
        Edge.due(Tables.saying(90, 10), BAD, "choose", 0, 100);
        Edge.due(Tables.saying(-90, -10), BAD, "choose", 0, -100);
        Edge.of(TERMS, "of all sets of BOTTLES that are not EMPTY by which MOOD and what they SAY, all together "
            + "(nothing held), is m");
        Edge.due(Tables.saying(0), 0, "choose", 0, 0);
        Edge.due(Tables.saying(0), -5, "choose", 0, 1);
        Edge.due(Tables.saying(0, 5), 0, "choose", 0, 0);
        Edge.due(Tables.saying(7, 5), 1, "choose", 0, 12);
        Edge.due(Tables.saying(90, 60, -51), 3, "choose", 0, 99);
        Edge.due(Tables.saying(90, 60, -51), -5, "choose", 0, 48);
        Edge.due(Tables.saying(98, 99, -98), 3, "choose", 0, 99);
        Edge.due(Tables.saying(90, 60), -5, "choose", 0, 99);
        Edge.due(Tables.saying(-90, -60, 51), 3, "choose", 0, -99);
        Edge.due(Tables.saying(-90, -60), -5, "choose", 0, -99);
        Edge.due(Tables.saying(0, 1, 2, 4, 8, 16, 32), 63, "choose", 0, 63);
        Edge.due(Tables.emptied(Tables.saying(0, 5, 5, 6), 0), 2, "choose", 0, 5);
        Edge.due(Tables.emptied(Tables.saying(0, 5, 5, 6), 0, 1), -5, "choose", 0, 5);
        Edge.due(Tables.emptied(Tables.saying(0, 5), 0), 0, "choose", 0, 0);
        Edge.of(TERMS, "that with the fewest (of several the least as bits): which, as bits (-5: none).");
        Edge.due(Tables.saying(0, 1, 2, 3), 4, "choose", 0, 3);
        Edge.due(Tables.saying(0, 1, 1, 1, 3, 2, 1), 8, "choose", 0, 3);
        Edge.due(Tables.saying(0, 1, 1, 1, 4, 2, 1), 17, "choose", 0, 3);
        Edge.due(Tables.saying(0, 0, 0), 0, "choose", 0, 0);
        Edge.due(Tables.saying(0, 3, 3, 3), 1, "choose", 0, 3);
        Edge.due(Tables.saying(0, 9, 3, 3), 2, "choose", 0, 3);
        Edge.due(Tables.saying(0, 1, 4, 4, 1), 3, "choose", 0, 5);
        Edge.due(Tables.saying(0, 1, 2, 3, 9, 9, 4), 6, "choose", 0, 5);
        Edge.due(Tables.saying(0, 2, 4), -5, "choose", 0, 1);
    }

    private static void promise18() {
        Edge.of("Promise 18", "CHOOSE (bits); -5.");
        Edge.due(Tables.saying(0, 9, 9, 9, 9, 9, 7), 32, "choose", 0, 7);
        Edge.due(Tables.saying(0, 9), -5, "choose", 0, 7);
        Edge.of("Promise 18", "NONE; BAD: m.");
        for (int guest : new int[] {Edge.LEAST, -1, 2, Edge.MOST}) {
            Edge.refused(Tables::laid, NONE, "choose", guest, 0);
            Edge.refused(Tables::laid, NONE, "choose", guest, 100);
        }
        for (int m : new int[] {Edge.LEAST, -100, 100, Edge.MOST}) {
            Edge.refused(Tables::laid, BAD, "choose", 1, m);
        }
        Edge.refused(Tables::full, NONE, "choose", 4, 0);
        Edge.refused(Tables::bare, NONE, "choose", 0, 0);
    }

    private static void line(LaidQuarrel x, int mood, int... order) {
        Edge.due(x, mood, "line", 0, -1);
        for (int k = 0; k < 6; k++) {
            Edge.due(x, k < order.length ? order[k] : -5, "line", 0, k);
        }
    }

    private static void lines() {
        Edge.of(TERMS, "LINE of one of GUESTS: of all orders of all BOTTLES that are not EMPTY, POURED to it one "
            + "behind the other, that by which its MOOD is greatest at the end (of several the first as a row): "
            + "MOOD; the k-th.");
        line(Tables.saying(90), 90);
        line(Tables.saying(-99), -99);
        line(Tables.saying(90, 5), 95, 0);
        line(Tables.saying(90, -5), 85, 0);
        line(Tables.saying(90, 30), 99, 0);
        line(Tables.saying(90, 30, -20), 99, 1, 0);
        line(Tables.saying(50, 49, -20), 79, 0, 1);
        line(Tables.saying(50, 50, -20), 80, 1, 0);
        line(Tables.saying(-90, -30, 20), -79, 0, 1);
        line(Tables.saying(-90, 20, -30), -79, 1, 0);
        line(Tables.saying(-50, 20, -49), -79, 0, 1);
        line(Tables.saying(-50, 20, -50), -79, 1, 0);
        line(Tables.saying(-99, -1), -99, 0);
        line(Tables.saying(-99, -1, -2, -3), -99, 0, 1, 2);
        line(Tables.saying(-99, 0, -1, -2, -3), -99, 0, 1, 2, 3);
        line(Tables.emptied(Tables.saying(-99, 5, -1, -2, -3), 0), -99, 1, 2, 3);
        line(Tables.saying(0, 1, 2, 3), 6, 0, 1, 2);
        line(Tables.saying(0, 3, 2, 1), 6, 0, 1, 2);
        line(Tables.saying(0, 60, 70, -20), 99, 0, 2, 1);
        line(Tables.saying(99, 1, 1, -1), 99, 0, 2, 1);
        line(Tables.saying(0, 1, 2, 3, 4, 5, 6), 21, 0, 1, 2, 3, 4, 5);
        line(Tables.saying(0, 99, 98, -97, 96, -95, 94), 99, 0, 2, 1, 4, 3, 5);
        line(Tables.saying(99, 99, 99, 99, 99, 99, -99), 99, 0, 1, 2, 3, 5, 4);
        line(Tables.emptied(Tables.saying(90, 60, -20, 70), 0), 99, 1, 2);
        line(Tables.emptied(Tables.saying(90, 60, -20, 70), 0, 2), 70, 1);
        line(Tables.emptied(Tables.saying(90, 60, -20, 70), 0, 1, 2), 90);
    }

    private static void promise19() {
        Edge.of("Promise 19", "LINE: k -1 MOOD, else the k-th (-5: there are fewer).");
        LaidQuarrel x = Tables.saying(0, 5, 4, 3, 2, 1, 0);
        Edge.due(x, 15, "line", 0, -1);
        Edge.due(x, 0, "line", 0, 0);
        Edge.due(x, 5, "line", 0, 5);
        Edge.due(Tables.saying(0, 1, 2, 3, 4, 5), 4, "line", 0, 4);
        Edge.due(Tables.saying(0, 1, 2, 3, 4, 5), -5, "line", 0, 5);
        Edge.due(Tables.saying(0), -5, "line", 0, 0);
        Edge.due(Tables.saying(0, 1), 0, "line", 0, 0);
        Edge.due(Tables.saying(0, 1), -5, "line", 0, 1);
        Edge.of("Promise 19", "-10001: NONE: guest, k (-1 .. 5).");
        for (int guest : new int[] {Edge.LEAST, -1, 2, Edge.MOST}) {
            Edge.refused(Tables::laid, -10001, "line", guest, 0);
            Edge.refused(Tables::laid, -10001, "line", guest, -1);
        }
        for (int k : new int[] {Edge.LEAST, -2, 6, Edge.MOST}) {
            Edge.refused(Tables::laid, -10001, "line", 0, k);
            Edge.refused(Tables::full, -10001, "line", 3, k);
        }
        Edge.refused(Tables::full, -10001, "line", 4, 0);
        Edge.refused(Tables::bare, -10001, "line", 0, -1);
    }

    private static void pair() {
        Edge.of(TERMS, "PAIR: the two that are not EMPTY by which what both SAY, together, is nearest to 0 (10 times "
            + "the lesser and the greater number; of several the first; -5: there are not two).");
        Edge.due(Tables.saying(0), -5, "pair");
        Edge.due(Tables.saying(0, 5), -5, "pair");
        Edge.due(Tables.saying(0, 99, 99), 1, "pair");
        Edge.due(Tables.saying(0, -99, -99), 1, "pair");
        Edge.due(Tables.saying(0, 99, 99, 99, 99, 0, 0), 45, "pair");
        Edge.due(Tables.saying(0, 50, 10, -14, 30), 12, "pair");
        Edge.due(Tables.saying(0, 50, 14, -10, 30), 12, "pair");
        Edge.due(Tables.saying(0, 7, 90, -5, 3), 2, "pair");
        Edge.due(Tables.saying(0, -7, 90, 5, -3), 2, "pair");
        Edge.due(Tables.saying(0, 1, 1, 1, 1, 1, 1), 1, "pair");
        Edge.due(Tables.saying(0, 3, 10, -10, 50, 60, -3), 5, "pair");
        Edge.due(Tables.saying(0, 9, 5, 5, 5), 12, "pair");
        Edge.due(Tables.emptied(Tables.saying(0, 1, -1, 50, 60), 0), 12, "pair");
        Edge.due(Tables.emptied(Tables.saying(0, 1, -1, 50, 60), 1), 2, "pair");
        Edge.due(Tables.emptied(Tables.saying(0, 1, -1, 50, 60), 0, 1), 23, "pair");
        Edge.due(Tables.emptied(Tables.saying(0, 1, -1, 50, 60), 0, 1, 3), -5, "pair");
        Edge.due(Tables.emptied(Tables.saying(0, 1, -1, 50, 60), 0, 1, 2, 3), -5, "pair");
        Edge.of("Promise 20", "PAIR; -5.");
        Edge.due(Tables.saying(0, 7, 8, -7), 2, "pair");
        Edge.due(Tables.laid(), 2, "pair");
        Edge.due(Tables.bare(), -5, "pair");
    }

    private static void match(LaidQuarrel x, int many, int... partners) {
        Edge.due(x, many, "match", 0);
        for (int b = 0; b < partners.length; b++) {
            Edge.due(x, partners[b], "match", 10 + b);
        }
        Edge.due(x, NONE, "match", 10 + partners.length);
    }

    private static LaidQuarrel peace(int n, int... words) {
        LaidQuarrel x = Tables.saying(0, words);
        Check.read(x, "peace " + n);
        return x;
    }

    private static void matches() {
        Edge.of(TERMS, "MATCH: the most pairs of BOTTLES that are not EMPTY, each in one at most, by which what "
            + "both SAY, together, is no farther from 0 than PEACE");
        match(Tables.saying(0, 10, -4), 0, -5, -5);
        match(Tables.saying(0, 10, -5), 1, 1, 0);
        match(Tables.saying(0, 10, -15), 1, 1, 0);
        match(Tables.saying(0, 10, -16), 0, -5, -5);
        match(peace(0, 10, -10), 1, 1, 0);
        match(peace(0, 10, -9), 0, -5, -5);
        match(peace(0, 10, -11), 0, -5, -5);
        match(peace(99, 50, 49), 1, 1, 0);
        match(peace(99, 50, 50), 0, -5, -5);
        match(peace(99, -50, -49), 1, 1, 0);
        match(peace(99, -50, -50), 0, -5, -5);
        match(Tables.saying(0), 0);
        match(Tables.saying(0, 0), 0, -5);
        match(Tables.saying(0, 0, 0), 1, 1, 0);
        match(Tables.saying(0, 0, 0, 0), 1, 1, 0, -5);
        match(Tables.saying(0, 0, 0, 0, 0), 2, 1, 0, 3, 2);
        match(Tables.saying(0, 0, 0, 0, 0, 0), 2, 1, 0, 3, 2, -5);
        match(Tables.saying(0, 0, 0, 0, 0, 0, 0), 3, 1, 0, 3, 2, 5, 4);
        match(Tables.saying(0, 10, -10, -10), 1, 1, 0, -5);
        match(Tables.saying(0, -10, -10, 10), 1, 2, -5, 0);
        match(Tables.emptied(Tables.saying(0, 1, 1, 1, 1), 1), 1, 2, -5, 0, -5);
        match(Tables.emptied(Tables.saying(0, 1, 1, 1, 1), 0, 1), 1, -5, -5, 3, 2);
        match(Tables.emptied(Tables.saying(0, 1, 1, 1, 1), 0, 1, 3), 0, -5, -5, -5, -5);
        Edge.of(TERMS, "of all ways with so many the first as a row of partners by numbers (lesser ones ahead, nobody "
            + "last): how many; partner of one (-5: none).");
        match(Tables.saying(0, 10, -10, -14, 6), 2, 2, 3, 0, 1);
        match(Tables.saying(0, 4, 2, -2), 1, 2, -5, 0);
        match(Tables.saying(0, 3, 0, 0), 1, 1, 0, -5);
        match(Tables.saying(0, 90, 1, 1, 1), 1, -5, 2, 1, -5);
        match(Tables.saying(0, 40, 20, -40, 30, -30, -20), 3, 2, 5, 0, 4, 3, 1);
        match(Tables.saying(0, 10, -10, -10, 10), 2, 1, 0, 3, 2);
        match(Tables.saying(0, 10, -6, 14, -12, -18), 2, 1, 0, 3, 2, -5);
        match(Tables.saying(0, 99, 10, -6, 14, -12, -18), 2, -5, 2, 1, 4, 3, -5);
        match(Tables.saying(0, 10, 10, -10, -10), 2, 2, 3, 0, 1);
        match(Tables.saying(0, 10, 10, 10, -10, -10), 2, 3, 4, -5, 0, 1);
        match(Tables.saying(0, 4, 0, 0, 90, 0, 0), 2, 1, 0, 4, -5, 2, -5);
    }

    private static void promise21() {
        Edge.of("Promise 21", "MATCH: what 0 how many, 10 and b partner of BOTTLE b (-5).");
        match(Tables.saying(0, 50, 40, 30, 0, 20, -20), 1, -5, -5, -5, -5, 5, 4);
        Edge.of("Promise 21", "NONE.");
        for (int what : new int[] {Edge.LEAST, Edge.LEAST + 10, -1, 1, 9, 13, 15, 16, 20, Edge.MOST}) {
            Edge.refused(Tables::laid, NONE, "match", what);
        }
        Edge.refused(Tables::full, NONE, "match", 16);
        Edge.refused(Tables::bare, NONE, "match", 10);
        Edge.due(Tables.bare(), 0, "match", 0);
    }

    private static LaidQuarrel laid(int kind, int v, int years, int quarter) {
        LaidQuarrel x = new LaidQuarrel();
        x.bottle(kind, v, 33);
        x.set(0, 0, years);
        x.set(0, 1, quarter);
        return x;
    }

    private static void words(LaidQuarrel x, int s, int many, int least) {
        Edge.due(x, many, "words", 0, s, 0);
        Edge.due(x, least, "words", 0, s, 1);
    }

    private static void words() {
        Edge.of(TERMS, "WORDS of one and s (-999 .. 999): how many WORDS (-99 .. 99) there are by which, were that its "
            + "WORD, it would SAY s now; the least (-10005: none).");
        LaidQuarrel x = laid(0, 0, 0, 0);
        for (int s : new int[] {-99, -98, -1, 0, 1, 98, 99}) {
            words(x, s, 1, s);
        }
        for (int s : new int[] {-999, -100, 100, 999}) {
            words(x, s, 0, -10005);
        }
        words(laid(0, 0, 20, 0), 0, 21, -10);
        words(laid(0, 0, 20, 0), 89, 1, 99);
        words(laid(0, 0, 20, 0), 90, 0, -10005);
        words(laid(0, 0, 20, 0), -89, 1, -99);
        words(laid(0, 0, 20, 0), -90, 0, -10005);
        words(laid(0, 0, 199, 0), 0, 199, -99);
        words(laid(3, 0, 20, 1), 89, 1, -99);
        words(laid(3, 0, 20, 1), -1, 1, 11);
        words(laid(4, 9, 41, 0), -9, 21, -10);
        words(laid(4, 9, 41, 0), -98, 1, -99);
        words(laid(4, 9, 41, 0), -99, 0, -10005);
        words(laid(5, 9, 31, 0), 0, 32, -30);
        words(laid(5, 9, 31, 0), -9, 31, -39);
        words(laid(5, 9, 30, 0), 0, 61, -30);
        LaidQuarrel told = laid(6, 0, 0, 2);
        told.row(0, 2, 9);
        words(told, 108, 1, 99);
        words(told, 109, 0, -10005);
        words(told, -90, 1, -99);
        words(told, -91, 0, -10005);
        LaidQuarrel empty = laid(0, 0, 20, 0);
        empty.guest(0);
        empty.pour(0, 0);
        words(empty, 0, 21, -10);
    }

    private static void promise22() {
        Edge.of("Promise 22", "WORDS: what 0 how many, 1 the least; -10005.");
        words(laid(0, 0, 2, 0), 0, 3, -1);
        words(laid(0, 0, 2, 0), 99, 0, -10005);
        Edge.of("Promise 22", "-10001: NONE; -10002: BAD: s.");
        int[][] none = {{-1, 0, 0}, {3, 0, 0}, {Edge.LEAST, 0, 0}, {Edge.MOST, 0, 1}, {0, 0, -1}, {0, 0, 2},
            {0, 0, Edge.LEAST}, {0, 0, Edge.MOST}, {3, 1000, 0}, {0, 1000, 2}, {3, -1000, -1}};
        for (int[] a : none) {
            Edge.refused(Tables::laid, -10001, "words", a);
        }
        for (int s : new int[] {Edge.LEAST, -1000, 1000, Edge.MOST}) {
            Edge.refused(Tables::laid, -10002, "words", 0, s, 0);
            Edge.refused(Tables::laid, -10002, "words", 2, s, 1);
        }
        Edge.refused(Tables::full, -10001, "words", 6, 0, 0);
        Edge.refused(Tables::bare, -10001, "words", 0, 0, 0);
    }

    /** The same object is asked, is otherwise then, and is asked again. */
    private static void againAsAllIsThen() {
        Edge.of(TERMS, "All that follows is asked, goes on from how all is (YEAR beyond 9999, too), and changes "
            + "nothing.");
        LaidQuarrel x = Tables.saying(0, 40, -40, 30);
        line(x, 30, 0, 1, 2);
        match(x, 1, 1, 0, -5);
        Edge.due(x, 1, "choose", 0, 40);
        Edge.due(x, 1, "pair");
        x.set(0, 0, 20);
        x.set(1, 0, 20);
        line(x, 30, 0, 1, 2);
        Edge.due(x, 1, "choose", 0, 30);
        x.set(1, 0, 0);
        Edge.due(x, -5, "choose", 0, 40);
        Edge.due(x, 1, "pair");
        match(x, 0, -5, -5, -5);
        line(x, 20, 0, 1, 2);
        x.bottle(0, 0, 10);
        Edge.due(x, 9, "choose", 0, 40);
        match(x, 0, -5, -5, -5, -5);
        x.bottle(0, 0, -10);
        x.bottle(0, 0, 99);
        match(x, 1, -5, -5, -5, 4, 3, -5);
        line(x, 99, 0, 1, 2, 3, 4, 5);
        x.pour(3, 0);
        x.set(2, 0, 60);
        match(x, 0, -5, -5, -5, -5, -5, -5);
        Edge.due(x, 16, "choose", 0, 0);
    }

    public static void main(String[] args) {
        againAsAllIsThen();
        choose();
        promise18();
        lines();
        promise19();
        pair();
        matches();
        promise21();
        words();
        promise22();
        Check.end("EdgesOfPouringTest");
    }
}
