/** Long runs of all calls, each answer held against the Model's; the dice are a fixed row of numbers. */
public final class RandomRunsTest {
    private static long seed = 20261118;

    private static int dice(int n) {
        seed = seed * 6364136223846793005L + 1442695040888963407L;
        return (int) Math.floorMod(seed >>> 33, (long) n);
    }

    /** Mostly within the bounds, at times just or far beyond them. */
    private static int near(int least, int greatest) {
        switch (dice(40)) {
            case 0: return least - 1;
            case 1: return greatest + 1;
            case 2: return dice(2) == 0 ? Integer.MIN_VALUE : Integer.MAX_VALUE;
            case 3: return least;
            case 4: return greatest;
            default: return least + dice(greatest - least + 1);
        }
    }

    private static String number() {
        return String.valueOf(dice(3) == 0 ? dice(100) : dice(10));
    }

    private static String factor(int deep) {
        int way = dice(6);
        if (deep < 7 && way == 0) {
            return "!" + factor(deep + 1);
        }
        if (deep < 7 && way == 1) {
            return "(" + either(deep + 1) + ")";
        }
        char letter = "bkvyqw".charAt(dice(6));
        return "" + letter + "<=>".charAt(dice(3)) + (dice(4) == 0 ? number() : String.valueOf(dice(5)));
    }

    private static String either(int deep) {
        String e = factor(deep);
        while (dice(3) == 0) {
            e += (dice(2) == 0 ? "&" : "|") + factor(deep);
        }
        return e;
    }

    private static String clause() {
        switch (dice(4)) {
            case 0: return "calm " + number();
            case 1: return "peace " + number();
            case 2: return "soften " + number() + " " + either(0);
            default: return "sharpen " + number() + " " + either(0);
        }
    }

    private static String text() {
        StringBuilder text = new StringBuilder(clause());
        int more = dice(20) == 0 ? 12 : dice(4);
        for (int i = 0; i < more; i++) {
            text.append(';').append(more > 5 ? "calm " + dice(10) : clause());
        }
        if (dice(4) == 0) {
            int at = dice(text.length());
            String signs = "calmpeosftnhr !()&|;<=>0123456789bkvyqwx\0";
            switch (dice(4)) {
                case 0: text.setLength(at); break;
                case 1: text.deleteCharAt(at); break;
                case 2: text.setCharAt(at, signs.charAt(dice(signs.length()))); break;
                default: text.insert(at, signs.charAt(dice(signs.length()))); break;
            }
        }
        return text.toString();
    }

    private static int feedText(LaidQuarrel x, Model m) {
        String text = text();
        for (int i = 0; i < text.length(); i++) {
            Check.due("feed", x.feed(text.charAt(i)), m.feed(text.charAt(i)));
        }
        if (dice(10) > 0) {
            Check.due("cellar after " + text, x.cellar(), m.cellar());
        }
        return text.length() + 1;
    }

    private static int what(int greatest) {
        return near(0, greatest);
    }

    private static int bottle() {
        return near(0, 5);
    }

    private static int guest() {
        return near(0, 3);
    }

    private static int ofAll() {
        int way = dice(3);
        return way == 0 ? near(0, 1) : way == 1 ? near(10, 15) : near(20, 23);
    }

    private static int ofPair() {
        return dice(3) == 0 ? near(0, 0) : near(10, 15);
    }

    /** What may well be so of a BOTTLE then. */
    private static int guess(LaidQuarrel x, int b, int n) {
        int says = x.on(Math.max(0, Math.min(60, n)), 10 + Math.max(0, Math.min(5, b)));
        return dice(5) == 0 || says < -999 ? near(-999, 999) : says;
    }

    private static void change(LaidQuarrel x, Model m, String run) {
        int b = bottle(), c = bottle(), g = guest(), n;
        switch (dice(14)) {
            case 0: n = near(0, 6); int v = near(0, 9); int w = near(-99, 99);
                Check.due(run + "bottle " + n, x.bottle(n, v, w), m.bottle(n, v, w)); break;
            case 1: n = near(-99, 99); Check.due(run + "guest", x.guest(n), m.guest(n)); break;
            case 2: n = near(0, 9); int k = near(0, 3);
                Check.due(run + "row", x.row(b, k, n), m.row(b, k, n)); break;
            case 3: n = near(0, 199); Check.due(run + "set 0", x.set(b, 0, n), m.set(b, 0, n)); break;
            case 4: n = near(0, 3); int what = near(0, 1);
                Check.due(run + "set", x.set(b, what, n), m.set(b, what, n)); break;
            case 5: if (dice(4) > 0) break; Check.due(run + "pour", x.pour(b, g), m.pour(b, g)); break;
            case 6: if (dice(6) > 0) break; Check.due(run + "both", x.both(b, c, g), m.both(b, c, g)); break;
            case 7: n = dice(4) == 0 ? near(0, 60) : near(0, 10); Check.due(run + "pass", x.pass(n), m.pass(n)); break;
            case 8: n = dice(2) == 0 ? 0 : near(0, 20); int s = guess(x, b, n);
                if (dice(4) == 0) { Check.due(run + "see -1", x.see(-1, s, n), m.see(-1, s, n)); }
                Check.due(run + "see", x.see(b, s, n), m.see(b, s, n)); break;
            case 9: n = near(0, 3); Check.due(run + "evening", x.evening(n, b, g), m.evening(n, b, g));
                if (dice(16) == 0) { Check.due(run + "evening -1", x.evening(-1, b, g), m.evening(-1, b, g)); } break;
            case 10: n = guess(x, b, 0); Check.due(run + "book", x.book(b, n), m.book(b, n));
                if (dice(16) == 0) { Check.due(run + "book -1", x.book(-1, n), m.book(-1, n)); } break;
            case 11: n = dice(3) == 0 ? near(-1000, 1000) : near(-9, 9); int act = what(2);
                Check.due(run + "act " + b + " " + act + " " + n, x.act(b, act, n), m.act(b, act, n)); break;
            case 12: if (dice(3) > 0) break; Check.due(run + "image", x.image(), m.image()); break;
            default: if (dice(3) > 0) break; Check.due(run + "undo", x.undo(), m.undo()); break;
        }
    }

    private static void ask(LaidQuarrel x, Model m, String run) {
        int b = bottle(), g = guest(), w = what(1), n = near(0, 60), part = near(0, 1), k;
        switch (dice(24)) {
            case 0: k = what(7); Check.due(run + "of " + b + " " + k, x.of(b, k), m.of(b, k)); break;
            case 1: Check.due(run + "mood", x.mood(g), m.mood(g)); break;
            case 2: k = what(5); Check.due(run + "told " + k, x.told(k), m.told(k)); break;
            case 3: case 4: k = ofAll(); Check.due(run + "on " + n + " " + k, x.on(n, k), m.on(n, k)); break;
            case 5: Check.due(run + "when", x.when(b, w), m.when(b, w)); break;
            case 6: Check.due(run + "ripe", x.ripe(b), m.ripe(b)); break;
            case 7: Check.due(run + "lies", x.lies(b), m.lies(b)); break;
            case 8: k = likelyMood(x, g); Check.due(run + "choose " + k, x.choose(g, k), m.choose(g, k)); break;
            case 9: k = near(-1, 5); Check.due(run + "line " + k, x.line(g, k), m.line(g, k)); break;
            case 10: Check.due(run + "pair", x.pair(), m.pair()); break;
            case 11: case 12: k = ofPair(); Check.due(run + "match " + k, x.match(k), m.match(k)); break;
            case 13: k = dice(2) == 0 ? near(-999, 999) : near(-60, 60);
                Check.due(run + "words", x.words(b, k, w), m.words(b, k, w)); break;
            case 14: case 15: Check.due(run + "old " + b + " " + w, x.old(b, w), m.old(b, w)); break;
            case 16: Check.due(run + "firm " + b + " " + w, x.firm(b, w), m.firm(b, w)); break;
            case 17: n = near(0, 40); k = guess(x, b, n); Check.due(run + "whose", x.whose(k, n), m.whose(k, n)); break;
            case 18: k = near(-99, 99); Check.due(run + "odds", x.odds(g, k, part), m.odds(g, k, part)); break;
            case 19: Check.due(run + "mean", x.mean(n, part), m.mean(n, part)); break;
            case 20: Check.due(run + "done", x.done(w), m.done(w)); break;
            case 21: Check.due(run + "looked", x.looked(), m.looked()); break;
            case 22: k = near(0, 6); Check.due(run + "trace", x.trace(k), m.trace(k));
                Check.due(run + "as", x.as(b, k), m.as(b, k)); break;
            default: k = what(7); Check.due(run + "count " + k, x.count(k), m.count(k)); break;
        }
    }

    private static int likelyMood(LaidQuarrel x, int g) {
        if (dice(2) == 0) {
            return near(-99, 99);
        }
        int sum = x.mood(g);
        for (int b = 0; b < 6; b++) {
            sum += dice(2) == 0 && x.of(b, 5) == 0 ? x.of(b, 7) : 0;
        }
        return sum;
    }

    public static void main(String[] args) {
        for (int r = 0; r < 2200; r++) {
            LaidQuarrel x = new LaidQuarrel();
            Model m = new Model();
            if (dice(5) > 0) {
                for (int b = dice(7); b > 0; b--) {
                    int kind = dice(7), v = dice(10), word = dice(199) - 99;
                    Check.due("bottle", x.bottle(kind, v, word), m.bottle(kind, v, word));
                    int years = dice(3) == 0 ? dice(200) : dice(70);
                    Check.due("set", x.set(b - 1, 0, years), m.set(b - 1, 0, years));
                }
                for (int g = dice(5); g > 0; g--) {
                    int mood = dice(199) - 99;
                    Check.due("guest", x.guest(mood), m.guest(mood));
                }
            }
            for (int calls = 20; calls < 270; calls++) {
                String run = "run " + r + " call " + calls + ": ";
                if (dice(60) == 0) {
                    calls += feedText(x, m);
                } else if (dice(3) == 0) {
                    change(x, m, run);
                } else {
                    ask(x, m, run);
                }
            }
        }
        Check.end("RandomRunsTest");
    }
}
