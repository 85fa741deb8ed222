/** Promises 14 to 17: ON, WHEN, RIPE, LIES. */
public final class YearsTest {
    private static LaidQuarrel table() {
        LaidQuarrel x = new LaidQuarrel();
        x.bottle(0, 0, 40);
        x.bottle(1, 0, -40);
        x.bottle(2, 0, 25);
        x.guest(30);
        x.guest(-8);
        Check.read(x, "calm 2");
        return x;
    }

    private static void promise14On() {
        LaidQuarrel x = table();
        x.pour(2, 0);
        Check.due("14 all SAY now", x.on(0, 0), 0);
        Check.due("14 all SAY", x.on(20, 0), -5);
        Check.due("14 one", x.on(20, 10), 30);
        Check.due("14 another", x.on(20, 11), -35);
        Check.due("14 an EMPTY one stays", x.on(20, 12), 25);
        Check.due("14 MOOD of all", x.on(3, 1), 47);
        Check.due("14 MOOD of one", x.on(3, 20), 49);
        Check.due("14 MOOD of another", x.on(3, 21), -2);
        Check.due("14 MOOD at 0", x.on(60, 1), 0);
        Check.due("14 199 at most", x.set(0, 0, 190), 0);
        Check.due("14 199 at most", x.on(60, 10), 0);
        Check.due("14 nothing has gone", x.told(0), 0);
        Check.due("14 nor aged", x.of(1, 3), 0);
        Check.due("14 n below", x.on(-1, 0), -10002);
        Check.due("14 n above", x.on(61, 21), -10002);
        Check.due("14 NONE ahead of BAD", x.on(61, 2), -10001);
        int[] none = {-1, 2, 9, 13, 16, 19, 22, 24, Integer.MAX_VALUE, Integer.MIN_VALUE, Integer.MIN_VALUE + 10};
        for (int what : none) {
            Check.due("14 what " + what, x.on(0, what), -10001);
        }
        LaidQuarrel y = new LaidQuarrel();
        y.guest(99);
        for (int i = 0; i < 166; i++) {
            y.pass(60);
        }
        Check.read(y, "calm 1");
        Check.due("14 beyond 9999", y.on(60, 20), 39);
    }

    private static void promise15When() {
        LaidQuarrel x = table();
        Check.due("15 now", x.when(0, 0), 0);
        Check.due("15 how much now", x.when(0, 1), 40);
        Check.due("15 the first of several", x.when(1, 0), 60);
        Check.due("15 how much", x.when(1, 1), -25);
        x.set(1, 0, 150);
        Check.due("15 0 first", x.when(1, 0), 10);
        Check.due("15 0", x.when(1, 1), 0);
        Check.due("15 no bottle", x.when(3, 0), -10001);
        Check.due("15 what below", x.when(0, -1), -10001);
        Check.due("15 what above", x.when(0, 2), -10001);
        LaidQuarrel y = new LaidQuarrel();
        y.bottle(0, 0, 80);
        y.set(0, 0, 15);
        Check.read(y, "sharpen 20 y=4;soften 5 y=5");
        Check.due("15 a late most", y.when(0, 0), 25);
        Check.due("15 a late much", y.when(0, 1), 80);
        y.set(0, 0, 39);
        Check.due("15 the next", y.when(0, 0), 1);
        y.set(0, 0, 1);
        y.bottle(0, 0, 9);
        y.set(1, 0, 1);
        Check.read(y, "calm 1");
        Check.due("15 at once", y.when(1, 1), 9);
    }

    private static void promise16Ripe() {
        LaidQuarrel x = new LaidQuarrel();
        x.bottle(0, 0, -5);
        x.bottle(0, 0, -30);
        x.bottle(0, 0, -31);
        x.bottle(0, 0, 0);
        x.bottle(4, 3, 0);
        x.guest(0);
        Check.due("16 behind ten", x.ripe(0), 10);
        Check.due("16 behind sixty", x.ripe(1), 60);
        Check.due("16 not by then", x.ripe(2), -5);
        Check.due("16 now", x.ripe(3), 0);
        Check.due("16 now, if not later", x.ripe(4), 0);
        x.pour(0, 0);
        Check.due("16 an EMPTY one does not ripen", x.ripe(0), -5);
        Check.due("16 below", x.ripe(-1), LaidQuarrel.NONE);
        Check.due("16 above", x.ripe(5), LaidQuarrel.NONE);
    }

    private static void promise17Lies() {
        LaidQuarrel x = new LaidQuarrel();
        x.bottle(0, 0, -20);
        x.bottle(3, 0, -20);
        x.bottle(6, 0, 20);
        x.bottle(6, 0, 20);
        x.set(0, 1, 3);
        x.set(1, 0, 20);
        x.row(2, 2, 1);
        x.row(3, 1, 9);
        Check.due("17 the first of several", x.lies(0), 0);
        Check.due("17 CORKED", x.lies(1), 1);
        Check.due("17 TOLD", x.lies(2), 2);
        Check.due("17 TOLD, not turned", x.lies(3), 0);
        Check.due("17 it lies as it lay", x.of(0, 4), 3);
        Check.due("17 below", x.lies(-1), LaidQuarrel.NONE);
        Check.due("17 above", x.lies(4), LaidQuarrel.NONE);
        x.set(0, 0, 20);
        Check.read(x, "soften 2 q=2;soften 3 q=3");
        Check.due("17 by the CELLAR", x.lies(0), 3);
    }

    public static void main(String[] args) {
        promise14On();
        promise15When();
        promise16Ripe();
        promise17Lies();
        Check.end("YearsTest");
    }
}
