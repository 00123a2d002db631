/** Promises 18 to 20: what was TOLD of ACTS, and what LABELS fit it. */
public final class ToldTest {
    public static void main(String[] args) {
        tells();
        forgets();
        fits();
        isSure();
        Due.ends();
    }

    private static void tells() {
        KingDrops drops = Due.told("d0 5;a1 0 9;a2;");
        Due.is("tells(-1, 0)", drops.tells(-1, 0), KingDrops.BAD);
        Due.is("tells(2, 0)", drops.tells(2, 0), KingDrops.BAD);
        Due.is("tells(0, -1)", drops.tells(0, -1), KingDrops.BAD);
        Due.is("tells(0, 2)", drops.tells(0, 2), KingDrops.BAD);
        for (int i = 1; i <= 6; i++) {
            Due.is("tells, the LEVEL being too low", drops.tells(i % 2, i % 2), i);
        }
        Due.is("tells a seventh", drops.tells(0, 0), KingDrops.FULL);
        Due.is("tells BAD ahead of FULL", drops.tells(2, 0), KingDrops.BAD);
        Due.is("tells BAD well ahead of FULL", drops.tells(0, 2), KingDrops.BAD);
        for (int wild : Due.WILD) {
            Due.is("tells(" + wild + ", 0)", drops.tells(wild, 0), KingDrops.BAD);
            Due.is("tells(0, " + wild + ")", drops.tells(0, wild), KingDrops.BAD);
        }
        Due.is("TOLD", drops.count(2), 6);
        Due.is("telling is no step", drops.count(3), 0);
    }

    private static void forgets() {
        KingDrops drops = Due.told("d0 5;d0 0;a1 0 9;");
        drops.tells(0, 1);
        drops.tells(0, 0);
        Due.is("fits(-1) of both", drops.fits(-1), 0);
        Due.is("forget()", drops.forget(), 2);
        Due.is("TOLD", drops.count(2), 0);
        Due.is("fits(-1) of nothing", drops.fits(-1), 2);
        Due.is("forget() again", drops.forget(), 0);
        Due.is("tells behind forget()", drops.tells(0, 0), 1);
        Due.is("fits(-1) behind it", drops.fits(-1), 1);
    }

    private static void fits() {
        String decanters = "";
        int[] ways = {1, 1, 2, 6, 24, 120, 720};
        for (int n = 0; n <= 6; n++) {
            Due.is("fits(-1) of " + n, Due.told(decanters).fits(-1), ways[n]);
            decanters += "d1 0;";
        }
        KingDrops drops = Due.told(decanters.substring(0, 30) + "a1 0 1;a1 0 1 1 1;a1;a1 2 0;a1 0 1 1 1 2 1 3 1 4 1 5 1;");
        isFit(drops, 120, 0, 1);
        isFit(drops, 600, 0, 0);
        isFit(drops, 24, 1, 1);
        isFit(drops, 696, 1, 0);
        isFit(drops, 96, 0, 1, 1, 0);
        isFit(drops, 24, 0, 1, 1, 1);
        isFit(drops, 0, 0, 0, 1, 1);
        isFit(drops, 720, 2, 1);
        isFit(drops, 0, 2, 0);
        isFit(drops, 720, 3, 1);
        isFit(drops, 0, 3, 0);
        isFit(drops, 1, 4, 1);
        isFit(drops, 719, 4, 0);
        isFit(drops, 0, 4, 1, 4, 0);
        isFit(drops, 120, 0, 1, 0, 1, 0, 1, 0, 1, 0, 1, 0, 1);
        drops.labels(0, 1);
        drops.tops(0, 1);
        isFit(drops, 120, 0, 1);
    }

    /** The ACTS that were told and how they went, by twos. */
    private static void isFit(KingDrops drops, int due, int... told) {
        drops.forget();
        for (int i = 0; i + 1 < told.length; i += 2) {
            drops.tells(told[i], told[i + 1]);
        }
        Due.is("fits(-1)", drops.fits(-1), due);
    }

    private static void isSure() {
        KingDrops drops = Due.told("d1 0;d1 0;d1 0;a1 0 1;a1 0 1 1 1;a1 1 1;");
        areSure(drops, KingDrops.NONE, KingDrops.NONE, KingDrops.NONE);
        drops.tells(0, 1);
        areSure(drops, 0, KingDrops.NONE, KingDrops.NONE);
        drops.tells(1, 0);
        areSure(drops, 0, 2, 1);
        drops.tells(2, 1);
        areSure(drops, KingDrops.NONE, KingDrops.NONE, KingDrops.NONE);
        drops.forget();
        drops.tells(1, 1);
        areSure(drops, 0, 1, 2);
        drops.forget();
        drops.tells(0, 0);
        areSure(drops, KingDrops.NONE, KingDrops.NONE, KingDrops.NONE);
        Due.is("fits(-2)", drops.fits(-2), KingDrops.BAD);
        Due.is("fits(3)", drops.fits(3), KingDrops.BAD);
        for (int wild : Due.WILD) {
            Due.is("fits(" + wild + ")", drops.fits(wild), KingDrops.BAD);
        }
        drops = Due.told("d1 0;d1 0;a1 0 1;");
        areSure(drops, KingDrops.NONE, KingDrops.NONE);
        drops.tells(0, 0);
        areSure(drops, 1, 0);
        drops = Due.told("d1 0;d1 0;d1 0;d1 0;a1 0 1 1 1;a1 0 1 2 1;");
        drops.tells(0, 1);
        drops.tells(1, 0);
        areSure(drops, 0, 1, 3, 2);
        areSure(Due.told("d1 0;"), 0);
    }

    private static void areSure(KingDrops drops, int... due) {
        for (int d = 0; d < due.length; d++) {
            Due.is("fits(" + d + ")", drops.fits(d), due[d]);
        }
    }
}
