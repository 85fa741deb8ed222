/** Objects to be asked: each call makes a new one, alike to the others of its name. */
final class Tables {
    private static final String[] CELLARS = {"calm 1", "calm 2", "peace 9", "peace 0", "calm 3;soften 9 q=1"};

    private Tables() {
    }

    static LaidQuarrel bare() {
        return new LaidQuarrel();
    }

    /** Some of all that there is, but nothing full; BOTTLE 1 is EMPTY, THE IMAGE is of some calls ago. */
    static LaidQuarrel laid() {
        LaidQuarrel x = untraced();
        x.act(2, 2, 5);
        return x;
    }

    /** The same ahead of its only act. */
    static LaidQuarrel untraced() {
        LaidQuarrel x = new LaidQuarrel();
        x.bottle(6, 4, 50);
        x.bottle(0, 0, -40);
        x.bottle(4, 9, -60);
        x.guest(7);
        x.guest(-30);
        x.set(0, 0, 10);
        x.set(0, 1, 2);
        x.row(0, 2, 3);
        x.row(0, 0, 8);
        x.set(2, 0, 45);
        x.see(0, 48, 0);
        x.see(2, -57, 0);
        x.evening(2, 0, 0);
        x.evening(1, 0, 1);
        x.book(0, 46);
        x.book(2, -58);
        Check.read(x, "calm 1;soften 10 b=1;peace 9");
        x.feed('c');
        x.image();
        x.feed('a');
        x.pass(4);
        x.pour(1, 0);
        return x;
    }

    /** As much as there can be of all; BOTTLE 5 is EMPTY. */
    static LaidQuarrel full() {
        LaidQuarrel x = new LaidQuarrel();
        int[] kinds = {6, 0, 4, 5, 2, 3};
        for (int b = 0; b < kinds.length; b++) {
            x.bottle(kinds[b], b, b % 2 == 0 ? 99 : -99);
            x.set(b, 0, 40 * b - b);
            x.set(b, 1, b % 4);
        }
        for (int g = 0; g < 4; g++) {
            x.guest(g % 2 == 0 ? 99 - g : g - 99);
        }
        x.row(0, 0, 9);
        for (String text : CELLARS) {
            Check.read(x, text);
        }
        for (int r = 0; r < 8; r++) {
            x.see(0, 108, 0);
            x.evening(r % 4, 1 + r % 3, 3);
            x.book(0, r < 3 ? 108 : r);
        }
        for (int i = 0; i < 100; i++) {
            x.feed(i == 0 ? 'c' : 'a');
        }
        x.pour(5, 1);
        x.image();
        x.act(3, 2, 7);
        return x;
    }

    /** YEAR is 9999; the one BOTTLE has all its YEARS ahead. */
    static LaidQuarrel late() {
        LaidQuarrel x = new LaidQuarrel();
        for (int i = 0; i < 166; i++) {
            x.pass(60);
        }
        x.pass(39);
        x.bottle(0, 1, -30);
        x.guest(99);
        Check.read(x, "calm 1");
        return x;
    }

    /** One of GUESTS with this MOOD, and BOTTLES of KIND 0 and of no YEARS, which SAY these. */
    static LaidQuarrel saying(int mood, int... words) {
        LaidQuarrel x = new LaidQuarrel();
        for (int word : words) {
            x.bottle(0, 0, word);
        }
        x.guest(mood);
        return x;
    }

    /** BOTTLE 0 alone, and one of GUESTS with MOOD 0. */
    static LaidQuarrel one(int kind, int v, int word, int years) {
        LaidQuarrel x = new LaidQuarrel();
        x.bottle(kind, v, word);
        x.set(0, 0, years);
        x.guest(0);
        return x;
    }

    /** These BOTTLES are EMPTY then, by another one of GUESTS. */
    static LaidQuarrel emptied(LaidQuarrel x, int... bottles) {
        int guest = x.guest(0);
        for (int b : bottles) {
            x.pour(b, guest);
        }
        return x;
    }
}
