public final class Supper {
    public static void main(String[] args) {
        LaidQuarrel x = new LaidQuarrel();
        int quarrel = x.bottle(1, 5, -80);       // a HARD one, v 5, laid down with a WORD of -80
        int praise = x.bottle(2, 3, 90);         // a SWEET one
        int guest = x.guest(-50);
        for (char sign : "calm 1;peace 9;soften 30 k=1&!y<2".toCharArray()) {
            x.feed(sign);
        }
        System.out.println("cellar " + x.cellar());
        System.out.println("ripe behind " + x.ripe(quarrel) + " years");
        System.out.println("year " + x.pass(30) + ", mood " + x.mood(guest));
        System.out.println("says " + x.of(quarrel, 7) + " and " + x.of(praise, 7));
        System.out.println("likely " + x.odds(guest, 0, 0) + " in " + x.odds(guest, 0, 1));
        x.image();
        System.out.println("poured " + x.pour(quarrel, guest) + ", again " + x.pour(quarrel, guest));
        x.undo();
        System.out.println("together " + x.both(quarrel, praise, guest));
        System.out.println("no such bottle " + (x.ripe(7) == LaidQuarrel.NONE));
    }
}
