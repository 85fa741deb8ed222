/** Promises 1 to 3: a new object, THE TAPE, CELLARS and their FAULTS. */
public final class CellarsTest {
    private static void promise1NewObject() {
        LaidQuarrel x = new LaidQuarrel();
        for (int what = 0; what <= 7; what++) {
            Check.due("1 count " + what, x.count(what), 0);
        }
        Check.due("1 year", x.told(0), 0);
        Check.due("1 calm", x.told(1), 0);
        Check.due("1 peace", x.told(2), 5);
        Check.due("1 full ones", x.told(3), 0);
        Check.due("1 said", x.told(4), 0);
        Check.due("1 moods", x.told(5), 0);
        Check.due("1 no bottle", x.of(0, 0), -10001);
        Check.due("1 no guest", x.mood(0), -10001);
        Check.due("1 no image", x.undo(), LaidQuarrel.STATE);
        Check.due("1 no trace", x.trace(0), LaidQuarrel.NONE);
        Check.due("1 no odds", x.odds(0, 0, 0), LaidQuarrel.NO);
        LaidQuarrel y = new LaidQuarrel();
        x.guest(5);
        Check.due("1 objects stand apart", y.count(7), 0);
    }

    private static void promise2Feed() {
        LaidQuarrel x = new LaidQuarrel();
        Check.due("2 below", x.feed(-1), LaidQuarrel.BAD);
        Check.due("2 above", x.feed(128), LaidQuarrel.BAD);
        Check.due("2 least int", x.feed(Integer.MIN_VALUE), LaidQuarrel.BAD);
        Check.due("2 first", x.feed(0), 1);
        Check.due("2 second", x.feed(127), 2);
        for (int i = 3; i <= 100; i++) {
            Check.due("2 sign " + i, x.feed('c'), i);
        }
        Check.due("2 full", x.feed('c'), LaidQuarrel.FULL);
        Check.due("2 BAD ahead of FULL", x.feed(200), LaidQuarrel.BAD);
        Check.due("2 count", x.count(5), 100);
        Check.due("2 the first sign is kept", x.cellar(), -10);
        Check.due("2 empty then", x.count(5), 0);
    }

    private static void good(String text) {
        Check.due("3 good: " + text, Check.readAlone(text), 0);
    }

    private static void fault(String text, int place) {
        Check.due("3 fault: " + text, Check.readAlone(text), -10 - place);
    }

    private static void promise3Texts() {
        good("calm 0");
        good("calm 99;peace 10");
        good("soften 9 k=1|y>3&!(b<2)");
        good("sharpen 0 !!!!!w<99");
        good("soften 1 (((((q=0)))))");
        good("soften 1 !(!(!b=1))|!(!(!b=1))");
        good("calm 1;calm 2;calm 3;calm 4;calm 5;calm 6;calm 7;calm 8;calm 9;calm 0");
        good("soften 12 v>0|v<1|b=10");
        fault("", 0);
        fault(";", 0);
        fault("calm", 4);
        fault("calm ", 5);
        fault("calm  1", 5);
        fault("calm x", 5);
        fault("calm1", 4);
        fault("calm 01", 6);
        fault("calm 123", 7);
        fault("calm 1 ", 6);
        fault("calm 1;", 7);
        fault("calm 1;;", 7);
        fault("calm -1", 5);
        fault("Calm 1", 0);
        fault("peace 1 b=1", 7);
        fault("peach 1", 4);
        fault("s", 1);
        fault("sx", 1);
        fault("soften 1", 8);
        fault("soften 1 ", 9);
        fault("soften 1b=1", 8);
        fault("sharpen 100 b=1", 10);
        fault("shoften 1 b=1", 2);
        fault("soften 1 x=1", 9);
        fault("soften 1 b", 10);
        fault("soften 1 b!1", 10);
        fault("soften 1 b=", 11);
        fault("soften 1 b==", 11);
        fault("soften 1 b=05", 12);
        fault("soften 1 b=123", 13);
        fault("soften 1 b=1&", 13);
        fault("soften 1 b=1&&", 13);
        fault("soften 1 b=1|&", 13);
        fault("soften 1 b=1)", 12);
        fault("soften 1 (b=1", 13);
        fault("soften 1 (b=1;", 13);
        fault("soften 1 ()", 10);
        fault("soften 1 !", 10);
        fault("soften 1 !|", 10);
        fault("soften 1 b = 1", 10);
        fault("soften 1 !!!!!!b=1", 14);
        fault("soften 1 ((((((b=1", 14);
        fault("soften 1 (!(!(!b=1", 14);
        fault("soften 1 (!(!(b=1)))&!!!!!!b=1", 26);
        fault("calm 1;calm 2;calm 3;calm 4;calm 5;calm 6;calm 7;calm 8;calm 9;calm 0;", 69);
        fault("calm 1\0", 6);
        fault("\0", 0);
    }

    private static void promise3WhichHolds() {
        LaidQuarrel x = new LaidQuarrel();
        Check.due("3 first", Check.read(x, "calm 3;peace 40;calm 7"), 0);
        Check.due("3 the last calm", x.told(1), 7);
        Check.due("3 peace", x.told(2), 40);
        Check.due("3 a fault", Check.read(x, "peace 9;calm"), -22);
        Check.due("3 the tape is empty by a fault", x.count(5), 0);
        Check.due("3 the one that held holds", x.told(2), 40);
        Check.due("3 second", Check.read(x, "peace 1"), 1);
        Check.due("3 the newest holds", x.told(2), 1);
        Check.due("3 without calm", x.told(1), 0);
        Check.due("3 third", Check.read(x, "calm 1"), 2);
        Check.due("3 without peace", x.told(2), 5);
        Check.due("3 fourth", Check.read(x, "calm 2"), 3);
        Check.due("3 fifth", Check.read(x, "calm 3"), 4);
        Check.due("3 full", Check.read(x, "calm 4"), LaidQuarrel.FULL);
        Check.due("3 the tape stays by FULL", x.count(5), 6);
        Check.due("3 the fifth holds", x.told(1), 3);
        x.feed('x');
        Check.due("3 FULL ahead of a fault", x.cellar(), LaidQuarrel.FULL);
        Check.due("3 count", x.count(1), 5);
        LaidQuarrel y = new LaidQuarrel();
        Check.read(y, "calm 21;peace 22;sharpen 23 b=0;soften 24 b=0");
        Check.due("3 calm stands apart", y.told(1), 21);
        Check.due("3 peace stands apart", y.told(2), 22);
    }

    /** SOFT of a BOTTLE of 100 YEARS is five times the sum that stands in it. */
    private static void soft(String text, int kind, int v, int years, int quarter, int word, int want) {
        LaidQuarrel x = new LaidQuarrel();
        x.bottle(0, 0, 0);
        x.bottle(kind, v, word);
        x.set(1, 0, years);
        x.set(1, 1, quarter);
        Check.due("3 reads " + text, Check.read(x, text), 0);
        Check.due("3 SOFT by " + text, x.of(1, 6), want);
    }

    private static void promise3Meaning() {
        soft("calm 1", 0, 0, 100, 0, 50, 50);
        soft("calm 1", 0, 0, 99, 0, 50, 49);
        soft("soften 4 b=1", 0, 0, 100, 0, 50, 70);
        soft("soften 4 b=0", 0, 0, 100, 0, 50, 50);
        soft("soften 4 b=1;soften 6 b>0", 0, 0, 100, 0, 50, 100);
        soft("soften 4 b<2;sharpen 3 b=1", 0, 0, 100, 0, 50, 55);
        soft("sharpen 11 b=1", 0, 0, 100, 0, 50, 0);
        soft("sharpen 99 b=1;soften 90 b=1", 0, 0, 100, 0, 50, 5);
        soft("soften 2 k=4", 4, 0, 100, 0, 50, 60);
        soft("soften 2 k>4", 4, 0, 100, 0, 50, 50);
        soft("soften 2 v<8", 0, 7, 100, 0, 50, 60);
        soft("soften 2 v<7", 0, 7, 100, 0, 50, 50);
        soft("soften 2 y=10", 0, 0, 109, 0, 50, 65);
        soft("soften 2 y>10", 0, 0, 109, 0, 50, 54);
        soft("soften 2 q=3", 0, 0, 100, 3, 50, 60);
        soft("soften 2 q=3", 0, 0, 100, 2, 50, 50);
        soft("soften 2 w=4", 0, 0, 100, 0, -49, 60);
        soft("soften 2 w=4", 0, 0, 100, 0, 49, 60);
        soft("soften 2 w=4", 0, 0, 100, 0, 50, 50);
        soft("soften 2 !b=1", 0, 0, 100, 0, 50, 50);
        soft("soften 2 !!b=1", 0, 0, 100, 0, 50, 60);
        soft("soften 2 b=1|b=2&b=3", 0, 0, 100, 0, 50, 60);
        soft("soften 2 b=2&b=3|b=1", 0, 0, 100, 0, 50, 60);
        soft("soften 2 (b=1|b=2)&b=3", 0, 0, 100, 0, 50, 50);
        soft("soften 2 b=1&b=2", 0, 0, 100, 0, 50, 50);
        soft("soften 2 b=1&b<2&q=0", 0, 0, 100, 0, 50, 60);
        soft("soften 2 b=3|b=2|b=1", 0, 0, 100, 0, 50, 60);
        soft("soften 2 !b=1|b=1", 0, 0, 100, 0, 50, 60);
        soft("soften 2 !(b=1|b=1)", 0, 0, 100, 0, 50, 50);
        soft("soften 2 !(b=2|(k=3|(v>9|(q>3))))", 0, 0, 100, 0, 50, 60);
    }

    public static void main(String[] args) {
        promise1NewObject();
        promise2Feed();
        promise3Texts();
        promise3WhichHolds();
        promise3Meaning();
        Check.end("CellarsTest");
    }
}
