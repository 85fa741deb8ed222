/** Promises 33 to 38: ACTS, THE TRACE, KINDS, THE IMAGE, counts. */
public final class ActsTest {
    /** BOTTLE b is of KIND b - 1, with v 10 - b; so every number but that of BOTTLE 0 is above 0. */
    private static LaidQuarrel kinds(int first) {
        LaidQuarrel x = new LaidQuarrel();
        x.bottle(first, 9, 0);
        for (int kind = 0; kind < 5; kind++) {
            x.bottle(kind == 0 ? 6 : kind, 8 - kind, 0);
        }
        return x;
    }

    private static void act(LaidQuarrel x, int bottle, int act, int n, int want, int... bodies) {
        String what = "33 act(" + bottle + ", " + act + ", " + n + ")";
        Check.due(what, x.act(bottle, act, n), want);
        Check.due(what + " bodies", x.count(6), bodies.length);
        for (int i = 0; i < bodies.length; i++) {
            Check.due(what + " body " + i, x.trace(i), bodies[i]);
        }
        Check.due(what + " no more", x.trace(bodies.length), LaidQuarrel.NONE);
    }

    private static void promise33And34Acts() {
        LaidQuarrel x = kinds(0);
        act(x, 0, 0, 5, 5, 1);
        act(x, 0, 1, 5, -4, 2, 1);
        act(x, 0, 2, 5, -8, 3, 2, 1);
        // TOLD, number 1, v 8
        act(x, 1, 0, 5, 6, 1);
        act(x, 1, 1, 5, 6, 61, 2, 1);
        act(x, 1, 2, 5, 12 ^ 7, 31, 3, 61, 2, 1);
        // HARD, number 2, v 7
        act(x, 2, 0, 5, 17, 11, 1);
        act(x, 2, 1, 5, 10, 2, 11, 1);
        act(x, 2, 2, 5, 20, 3, 2, 11, 1);
        // SWEET, number 3, v 6
        act(x, 3, 0, 5, 8, 1);
        act(x, 3, 1, 5, -2, 21, 2, 1);
        act(x, 3, 2, 5, -4, 3, 21, 2, 1);
        // CORKED, number 4, v 5
        act(x, 4, 0, 5, 9, 1);
        act(x, 4, 1, 5, 4, 2, 1);
        act(x, 4, 2, 5, 8 ^ 7, 31, 3, 2, 1);
        // FEUD, number 5, v 4
        act(x, 5, 0, 5, 20, 11, 1);
        act(x, 5, 1, 5, 16, 2, 11, 1);
        act(x, 5, 2, 5, 2 * (12 + 5 - 4) + 6 + 5, 41, 3, 2, 11, 1, 11, 1);
        LaidQuarrel y = new LaidQuarrel();
        for (int b = 0; b < 6; b++) {
            y.bottle(5, 3, 0);
        }
        // LOVE, number 5, v 3
        act(y, 5, 0, 6, 11 ^ 5, 51, 1);
        act(y, 5, 1, 6, -((11 ^ 5) - 3), 21, 2, 51, 1);
        act(y, 5, 2, 6, -2 * ((11 ^ 5) - 3), 3, 21, 2, 51, 1);
        act(x, 2, 0, Integer.MAX_VALUE, Integer.MAX_VALUE * 3 + 2, 11, 1);
        act(x, 5, 2, Integer.MIN_VALUE, 2 * (Integer.MAX_VALUE * 3 + 1) + 11, 41, 3, 2, 11, 1, 11, 1);
        act(x, 3, 1, Integer.MIN_VALUE + 3, -Integer.MIN_VALUE, 21, 2, 1);
    }

    private static void promise33And34None() {
        LaidQuarrel x = kinds(0);
        x.act(5, 2, 1);
        Check.due("34 seven", x.count(6), 7);
        Check.due("34 below", x.trace(-1), LaidQuarrel.NONE);
        Check.due("34 seventh", x.trace(7), LaidQuarrel.NONE);
        Check.due("33 no bottle", x.act(6, 0, 5), 0);
        Check.due("33 no TRACE then", x.count(6), 0);
        Check.due("34 nor a body", x.trace(0), LaidQuarrel.NONE);
        x.act(5, 2, 1);
        Check.due("33 act above", x.act(0, 3, 5), 0);
        Check.due("33 no TRACE by that", x.trace(0), LaidQuarrel.NONE);
        Check.due("33 act below", x.act(0, -1, 5), 0);
        Check.due("33 below", x.act(-1, 0, 5), 0);
        x.act(0, 0, 1);
        x.see(-1, 0, 0);
        x.bottle(9, 0, 0);
        Check.due("34 other calls leave it", x.trace(0), 1);
    }

    private static void promise35As() {
        // for each KIND which of 0 .. 6 it is or stands under
        int[] under = {1, 1 | 2, 1 | 4, 1 | 8, 1 | 2 | 16, 1 | 4 | 32, 1 | 8 | 64};
        for (int kind = 0; kind <= 6; kind++) {
            LaidQuarrel x = new LaidQuarrel();
            x.bottle(kind, 9 - kind, 0);
            for (int k = 0; k <= 6; k++) {
                boolean is = (under[kind] >> k & 1) == 1;
                Check.due("35 " + kind + " as " + k, x.as(0, k), is ? 9 - kind : -6);
            }
            Check.due("35 k below", x.as(0, -1), LaidQuarrel.NONE);
            Check.due("35 k above", x.as(0, 7), LaidQuarrel.NONE);
            Check.due("35 no bottle", x.as(1, 0), LaidQuarrel.NONE);
            Check.due("35 below", x.as(-1, 0), LaidQuarrel.NONE);
        }
    }

    private static LaidQuarrel cellarful() {
        LaidQuarrel x = new LaidQuarrel();
        x.bottle(6, 5, 50);
        x.bottle(0, 0, -40);
        x.guest(7);
        x.set(0, 0, 10);
        x.set(0, 1, 2);
        x.row(0, 2, 3);
        x.see(0, 48, 0);
        x.evening(1, 0, 0);
        x.book(0, 48);
        Check.read(x, "calm 1;soften 10 b=1;peace 9");
        x.feed('c');
        x.pass(4);
        x.pour(1, 0);
        return x;
    }

    private static void state(String what, LaidQuarrel x) {
        int[] counts = {2, 1, 1, 1, 1, 1};
        for (int i = 0; i < counts.length; i++) {
            Check.due(what + " count " + i, x.count(i), counts[i]);
        }
        Check.due(what + " guests", x.count(7), 1);
        int[] told = {4, 1, 9, 1, 46, -33};
        for (int i = 0; i < told.length; i++) {
            Check.due(what + " told " + i, x.told(i), told[i]);
        }
        int[] of = {6, 5, 50, 14, 2, 0, 7, 46};
        for (int i = 0; i < of.length; i++) {
            Check.due(what + " of 0, " + i, x.of(0, i), of[i]);
        }
        Check.due(what + " SOFT of 1", x.of(1, 6), 4);
        Check.due(what + " seen", x.old(0, 1), 10);
        Check.due(what + " done", x.done(0), 13);
        Check.due(what + " looked", x.looked(), 0);
    }

    private static void promise36And37Image() {
        LaidQuarrel x = cellarful();
        state("36 ahead", x);
        Check.due("37 none", x.undo(), LaidQuarrel.STATE);
        Check.due("36 image", x.image(), 2);
        state("36 nothing changes", x);
        for (int round = 0; round < 2; round++) {
            x.bottle(4, 1, 1);
            x.bottle(5, 1, 1);
            x.guest(40);
            x.set(0, 0, 90);
            x.set(0, 1, 0);
            x.row(0, 2, 8);
            x.see(1, 0, 0);
            x.evening(0, 0, 0);
            x.book(-1, 0);
            x.feed(';');
            x.cellar();
            Check.read(x, "peace 1");
            x.pass(60);
            x.pour(0, 0);
            x.act(3, 0, 4);
            Check.due("37 undo", x.undo(), 2);
            state("37 undone " + round, x);
            Check.due("37 THE TRACE stays", x.count(6), 2);
            Check.due("37 its bodies stay", x.trace(0), 51);
        }
        x.bottle(1, 2, 3);
        Check.due("37 another BOTTLE may come", x.of(2, 0), 1);
        Check.due("37 as new", x.of(2, 3), 0);
        Check.due("36 a new image", x.image(), 3);
        x.set(2, 0, 77);
        Check.due("37 to the newest", x.undo(), 3);
        Check.due("37 as that was", x.of(2, 3), 0);
        for (int c = 0; c < 4; c++) {
            Check.due("37 CELLARS go on", Check.read(x, c == 0 ? "\0calm 1" : "calm 1"), c == 0 ? -11 : c);
        }
        LaidQuarrel y = new LaidQuarrel();
        Check.due("36 of nothing", y.image(), 0);
        y.bottle(0, 0, 0);
        Check.read(y, "peace 7");
        Check.due("37 to nothing", y.undo(), 0);
        Check.due("37 no CELLAR", y.told(2), 5);
    }

    private static void promise38Count() {
        LaidQuarrel x = cellarful();
        x.guest(1);
        x.guest(2);
        x.see(0, 1, 1);
        x.act(0, 2, 1);
        int[] want = {2, 1, 2, 1, 1, 1, 5, 3};
        for (int what = 0; what < want.length; what++) {
            Check.due("38 what " + what, x.count(what), want[what]);
        }
        Check.due("38 below", x.count(-1), LaidQuarrel.NONE);
        Check.due("38 above", x.count(8), LaidQuarrel.NONE);
    }

    public static void main(String[] args) {
        promise33And34Acts();
        promise33And34None();
        promise35As();
        promise36And37Image();
        promise38Count();
        Check.end("ActsTest");
    }
}
