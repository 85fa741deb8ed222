/** All that can be asked of an object, as one text. Asking it takes the object to its end: THE TAPE is read. */
final class Whole {
    private Whole() {
    }

    static String of(LaidQuarrel x) {
        StringBuilder all = new StringBuilder();
        state(x, all);
        all.append(" rows");
        for (int b = 0; b < 6; b++) {
            for (int k = 0; k < 4; k++) {
                all.append(' ').append(x.row(b, k, 0));
            }
        }
        all.append(" cellar ").append(x.cellar()).append(' ').append(x.told(1)).append(' ').append(x.told(2));
        all.append(" undone ").append(x.undo());
        state(x, all);
        return all.append(" cellar ").append(x.cellar()).toString();
    }

    private static void state(LaidQuarrel x, StringBuilder all) {
        all.append(" counts");
        for (int what = 0; what <= 7; what++) {
            all.append(' ').append(x.count(what));
        }
        all.append(" told");
        for (int what = 0; what <= 5; what++) {
            all.append(' ').append(x.told(what));
        }
        all.append(" moods");
        for (int g = 0; g < x.count(7); g++) {
            all.append(' ').append(x.mood(g));
        }
        all.append(" trace");
        for (int i = 0; i < x.count(6); i++) {
            all.append(' ').append(x.trace(i));
        }
        for (int b = 0; b < x.count(0); b++) {
            bottle(x, b, all);
        }
        all.append(" done ").append(x.done(0)).append(' ').append(x.done(1)).append(" looked ").append(x.looked());
    }

    private static void bottle(LaidQuarrel x, int b, StringBuilder all) {
        all.append(" bottle");
        for (int what = 0; what <= 7; what++) {
            all.append(' ').append(x.of(b, what));
        }
        all.append(" old ").append(x.old(b, 0)).append(' ').append(x.old(b, 1));
        all.append(" firm ").append(x.firm(b, 0)).append(' ').append(x.firm(b, 1));
    }
}
