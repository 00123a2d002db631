/** Promises 14 to 17: the best set of ACTS, setting LABELS right, sharing, odds. */
public final class ShouldTest {
    public static void main(String[] args) {
        trays();
        setsRight();
        shares();
        tellsOdds();
        refuses();
        Due.ends();
    }

    private static void isTray(String text, int which, int worth) {
        KingDrops drops = Due.told(text);
        Due.is("tray(0) of " + text, drops.tray(0), which);
        Due.is("tray(1) of " + text, drops.tray(1), worth);
    }

    private static void trays() {
        isTray("", 0, 0);
        isTray("a0;", 0, 0);
        isTray("a0;a5;a0;", 2, 5);
        isTray("d9 0;a10 0 5;a10 0 5;", 1, 10);
        isTray("d9 0;a10 0 5;a10 0 4;", 3, 20);
        isTray("d9 0;a10 0 9;a4 0 3;a4 0 3;a3 0 3;", 14, 11);
        isTray("d9 0;a10 0 3;a10 0 3;a20 0 6;", 5, 30);
        isTray("d6 0;a10 0 3;a10 0 3;a20 0 6;", 3, 20);
        isTray("d6 0;d1 0;a10 0 3 1 1;a10 0 3 1 1;a19 0 6;", 4, 19);
        isTray("d6 0;d1 0;x0 1;a10 0 1;a99 0 2;a7 1 6;", 5, 17);
        KingDrops drops = Due.told("d9 1;a10 0 5;a9 0 4;a8 0 4;");
        drops.pours(0);
        Due.is("tray(0) without what is DONE", drops.tray(0), 2);
        drops.month();
        Due.is("tray(0) where all is too low", drops.tray(0), 0);
        Due.is("tray(1) where all is too low", drops.tray(1), 0);
        Due.is("nothing is changed", drops.now(1), 1);
    }

    private static void isRight(String text, int changes, int first) {
        KingDrops drops = Due.told(text);
        Due.is("right(0) of " + text, drops.right(0), changes);
        Due.is("right(1) of " + text, drops.right(1), first);
    }

    private static void setsRight() {
        String six = "d1 0;d1 0;d1 0;d1 0;d1 0;d1 0;";
        isRight("", 0, KingDrops.NONE);
        isRight("d1 0;", 0, KingDrops.NONE);
        isRight(six, 0, KingDrops.NONE);
        isRight(six + "x0 1;", 1, 1);
        isRight(six + "x4 5;", 1, 45);
        isRight(six + "x5 2;", 1, 25);
        isRight(six + "x0 1;x1 2;", 2, 1);
        isRight(six + "x1 2;x0 1;", 2, 1);
        isRight(six + "x0 2;", 1, 2);
        isRight(six + "x0 5;x1 4;x2 3;", 3, 5);
        isRight(six + "x0 1;x1 2;x2 3;x3 4;x4 5;", 5, 1);
        isRight(six + "x0 2;x2 4;x4 1;x1 3;x3 5;", 5, 2);
        isRight(six + "x1 3;x4 5;", 2, 13);
        KingDrops drops = Due.told(six + "x0 3;x3 1;x1 5;x2 4;");
        for (int left = drops.right(0); left > 0; left--) {
            int two = drops.right(1);
            drops.labels(two / 10, two % 10);
            Due.is("one change less", drops.right(0), left - 1);
        }
        Due.is("all are right", drops.right(1), KingDrops.NONE);
    }

    private static void isShare(String text, int which, int difference) {
        KingDrops drops = Due.told(text);
        Due.is("share(0) of " + text, drops.share(0), which);
        Due.is("share(1) of " + text, drops.share(1), difference);
    }

    private static void shares() {
        isShare("", 0, 0);
        isShare("d0 0;", 1, 0);
        isShare("d40 0;", 1, 40);
        isShare("d5 0;d7 0;", 1, 2);
        isShare("d0 0;d0 0;d0 0;", 1, 0);
        isShare("d1 0;d2 0;d3 0;", 3, 0);
        isShare("d4 0;d2 0;d2 0;", 1, 0);
        isShare("d40 0;d1 0;d1 0;d1 0;d1 0;d1 0;", 1, 35);
        isShare("d1 0;d40 0;d1 0;d1 0;d1 0;d1 0;", 61, 35);
        isShare("d1 0;d10 0;d9 0;d9 0;d9 0;", 13, 0);
        KingDrops drops = Due.told("d5 5;d6 0;d1 0;");
        drops.labels(0, 1);
        Due.is("share(0) goes by LEVELS alone", drops.share(0), 5);
        drops.month();
        Due.is("share(0) behind a MONTH", drops.share(0), 3);
        Due.is("share(1) behind a MONTH", drops.share(1), 5);
        drops.tops(0, 6);
        Due.is("share(0) with TEA", drops.share(0), 1);
    }

    private static void areOdds(KingDrops drops, int a, int x, int upper, int lower) {
        Due.is("odds(" + a + ", " + x + ", 0)", drops.odds(a, x, 0), upper);
        Due.is("odds(" + a + ", " + x + ", 1)", drops.odds(a, x, 1), lower);
    }

    private static void tellsOdds() {
        KingDrops drops = Due.told("d9 0;d9 0;d9 0;d9 0;d9 0;d9 0;a1;a1 0 1;a1 0 1 5 9;a1 0 1 1 1 2 1 3 1 4 1 5 1;a1 3 0;");
        int[] upper = {1, 9, 4, 7, 3, 1, 2, 3, 1, 1, 0};
        int[] lower = {1, 10, 5, 10, 5, 2, 5, 10, 5, 10, 1};
        for (int x = 0; x <= 10; x++) {
            areOdds(drops, 0, x, 1, 1);
            areOdds(drops, 1, x, upper[x], lower[x]);
            areOdds(drops, 2, x, upper[x] * upper[x], lower[x] * lower[x]);
            areOdds(drops, 4, x, 1, 1);
        }
        areOdds(drops, 3, 1, 531441, 1000000);
        areOdds(drops, 3, 5, 1, 64);
        areOdds(drops, 3, 0, 1, 1);
        areOdds(drops, 3, 10, 0, 1);
        drops.pours(2);
        areOdds(drops, 1, 3, 7, 10);
        areOdds(drops, 2, 3, 0, 1);
        drops.tops(5, 9);
        areOdds(drops, 2, 3, 49, 100);
        drops = Due.told("d1 0;d9 0;a1 0 2;");
        areOdds(drops, 0, 0, 0, 1);
        areOdds(drops, 0, 7, 0, 1);
        drops.labels(0, 1);
        areOdds(drops, 0, 7, 3, 10);
    }

    private static void refuses() {
        KingDrops drops = Due.told("d1 0;a1 0 1;");
        int[] bad = {-1, 2};
        for (int what : bad) {
            refusesWhat(drops, what);
        }
        for (int wild : Due.WILD) {
            refusesWhat(drops, wild);
            Due.is("odds(" + wild + ", 0, 0)", drops.odds(wild, 0, 0), KingDrops.BAD);
            Due.is("odds(0, " + wild + ", 0)", drops.odds(0, wild, 0), KingDrops.BAD);
        }
        Due.is("odds(-1, 0, 0)", drops.odds(-1, 0, 0), KingDrops.BAD);
        Due.is("odds(1, 0, 0)", drops.odds(1, 0, 0), KingDrops.BAD);
        Due.is("odds(0, -1, 0)", drops.odds(0, -1, 0), KingDrops.BAD);
        Due.is("odds(0, 11, 0)", drops.odds(0, 11, 0), KingDrops.BAD);
    }

    private static void refusesWhat(KingDrops drops, int what) {
        Due.is("tray(" + what + ")", drops.tray(what), KingDrops.BAD);
        Due.is("right(" + what + ")", drops.right(what), KingDrops.BAD);
        Due.is("share(" + what + ")", drops.share(what), KingDrops.BAD);
        Due.is("odds(0, 0, " + what + ")", drops.odds(0, 0, what), KingDrops.BAD);
    }
}
