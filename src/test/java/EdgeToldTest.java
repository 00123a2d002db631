/** Promises 18 to 20 at their edges: what was TOLD, and what fits it. Each test names the sentence it holds. */
public final class EdgeToldTest {
    public static void main(String[] args) {
        tellsSix();
        tellsOfActs();
        tellsWellOrNot();
        tellsWhateverIsThere();
        forgets();
        asksFits();
        fitsAll();
        fitsWhatWentWell();
        fitsWhatDidNot();
        fitsNothing();
        isSure();
        isSureOfNone();
        Due.ends();
    }

    private static void tellsSix() {
        Due.holds(18, "TOLD (6 at most)");
        KingDrops drops = Due.told("d9 0;a5 0 1;");
        for (int n = 1; n <= 6; n++) {
            Due.is("tells(0, 1), " + n, drops.tells(0, 1), n);
        }
        Due.is("a seventh", drops.tells(0, 0), KingDrops.FULL);
        Due.is("the seventh is not there", drops.fits(-1), 1);
        Due.is("TOLD", drops.count(2), 6);
        Twins.leaves("a seventh", EdgeToldTest::toldSix, x -> x.tells(0, 0), KingDrops.FULL);
        Twins.leaves("a seventh as the others", EdgeToldTest::toldSix, x -> x.tells(0, 1), KingDrops.FULL);
        drops.forget();
        Due.is("behind forget()", drops.tells(0, 0), 1);
    }

    private static void toldSix(KingDrops drops) {
        Due.reads(drops, "d9 0;d9 0;a5 0 1;a6;");
        for (int n = 1; n <= 6; n++) {
            drops.tells(n % 2, 1);
        }
    }

    private static void tellsOfActs() {
        Due.holds(18, "TOLD: how much there is. BAD; FULL.");
        Twins.Calls told = x -> Due.reads(x, "d9 0;a1;a2;a3;a4;a5;");
        KingDrops drops = Due.told("d9 0;a1;a2;a3;a4;a5;");
        Due.is("tells(0, 1)", drops.tells(0, 1), 1);
        Due.is("tells(4, 1)", drops.tells(4, 1), 2);
        Twins.leaves("tells(-1, 1)", told, x -> x.tells(-1, 1), KingDrops.BAD);
        Twins.leaves("tells(5, 1)", told, x -> x.tells(5, 1), KingDrops.BAD);
        Twins.leaves("tells(0, 1) without ACTS", x -> Due.reads(x, "d9 0;"), x -> x.tells(0, 1), KingDrops.BAD);
    }

    private static void tellsWellOrNot() {
        Due.holds(18, "went WELL (1), or did not (0)");
        KingDrops drops = Due.told("d9 0;d9 0;a5 0 1;");
        Due.is("tells(0, 0)", drops.tells(0, 0), 1);
        Due.is("FITS", drops.fits(0), 1);
        drops.forget();
        Due.is("tells(0, 1)", drops.tells(0, 1), 1);
        Due.is("FITS", drops.fits(0), 0);
        for (int well : new int[] {-1, 2, 256, 257, Integer.MIN_VALUE, Integer.MAX_VALUE}) {
            Twins.leaves("tells(0, " + well + ")", x -> Due.reads(x, "d9 0;d9 0;a5 0 1;"), x -> x.tells(0, well), KingDrops.BAD);
        }
    }

    private static void tellsWhateverIsThere() {
        Due.holds(18, "an ACT, POURED for by LABELS (no TEA, enough there), went WELL (1), or did not (0)");
        KingDrops drops = Due.told("d0 0;d0 0;x0 1;a5 0 9;");
        Due.is("a LEVEL is too low", drops.tells(0, 1), 1);
        Due.is("it fits all the same", drops.fits(-1), 1);
        Due.is("it is not DONE", drops.now(1), 0);
        Due.is("it can't be UNDONE", drops.count(3), 0);
        drops.tops(1, 40);
        drops.pours(0);
        Due.is("it is DONE", drops.tells(0, 1), 2);
        Due.is("with TEA, by a wrong LABEL, it fits all the same", drops.fits(0), 0);
        Due.is("LEVELS", drops.now(5), 31);
    }

    private static void forgets() {
        Due.holds(19, "Nothing was TOLD: how much there was.");
        KingDrops drops = Due.told("d9 0;d9 0;a5 0 1;");
        Due.is("forget() of none", drops.forget(), 0);
        drops.tells(0, 0);
        Due.is("FITS ahead", drops.fits(-1), 1);
        Due.is("forget() of one", drops.forget(), 1);
        Due.is("FITS then", drops.fits(-1), 2);
        Due.is("TOLD then", drops.count(2), 0);
        for (int n = 0; n < 7; n++) {
            drops.tells(0, 1);
        }
        Due.is("forget() of six", drops.forget(), 6);
        Due.is("forget() again", drops.forget(), 0);
        Twins.leaves("forget() of none", x -> {
            Due.reads(x, "d9 0;a5 0 1;");
            x.pours(0);
            x.keep(0);
        }, KingDrops::forget, 0);
        Twins.leave("tells() and forget()", x -> Due.reads(x, "d9 0;a5 0 1;"), x -> {
            x.tells(0, 0);
            x.forget();
        });
    }

    private static void asksFits() {
        Due.holds(20, "FITS: how many (d = -1), SURE of a DECANTER; NONE. BAD.");
        String text = "";
        int[] ways = {1, 1, 2, 6, 24, 120, 720};
        for (int n = 0; n <= 6; n++) {
            KingDrops drops = Due.told(text);
            Due.is("fits(-2) of " + n, drops.fits(-2), KingDrops.BAD);
            Due.is("fits(-1) of " + n, drops.fits(-1), ways[n]);
            Due.is("fits(" + n + ") of " + n, drops.fits(n), KingDrops.BAD);
            if (n > 0) {
                Due.is("fits(0) of " + n, drops.fits(0), n == 1 ? 0 : KingDrops.NONE);
                Due.is("fits of the last of " + n, drops.fits(n - 1), n == 1 ? 0 : KingDrops.NONE);
            }
            text += "d1 0;";
        }
    }

    private static void fitsAll() {
        Due.holds(20, "FITS: in how many ways all LABELS could hang, so that all that was TOLD is so");
        KingDrops drops = Due.told("d1 0;d1 0;d1 0;x0 1;a1 0 1;a2 1 1;a3 2 1;a4 0 1 1 1;");
        Due.is("nothing was TOLD", drops.fits(-1), 6);
        drops.tells(0, 1);
        Due.is("one went WELL, however LABELS hang NOW", drops.fits(-1), 2);
        drops.tells(3, 0);
        Due.is("two of them did not, together", drops.fits(-1), 1);
        drops.tells(1, 0);
        Due.is("what is known already", drops.fits(-1), 1);
        drops.tells(2, 1);
        Due.is("what can't be", drops.fits(-1), 0);
    }

    private static void fitsWhatWentWell() {
        Due.holds(20, "so that all that was TOLD is so");
        KingDrops drops = Due.told("d1 0;d1 0;d1 0;d1 0;d1 0;d1 0;a1;a1 0 1;a1 0 1 1 1;a1 0 1 1 1 2 1 3 1 4 1;"
            + "a1 0 1 1 1 2 1 3 1 4 1 5 1;");
        int[] well = {720, 120, 24, 1, 1};
        for (int a = 0; a < 5; a++) {
            drops.forget();
            drops.tells(a, 1);
            Due.is("ways by which " + a + " went WELL", drops.fits(-1), well[a]);
            drops.forget();
            drops.tells(a, 0);
            Due.is("ways by which " + a + " did not", drops.fits(-1), 720 - well[a]);
        }
    }

    private static void fitsWhatDidNot() {
        Due.holds(20, "went WELL (1), or did not (0)");
        KingDrops drops = Due.told("d1 0;d1 0;d1 0;a1 0 1;a1 1 1;a1 2 1;");
        drops.tells(0, 0);
        Due.is("the first has not its own", drops.fits(-1), 4);
        drops.tells(1, 0);
        Due.is("nor the second", drops.fits(-1), 3);
        drops.tells(2, 0);
        Due.is("nor the third", drops.fits(-1), 2);
    }

    private static void fitsNothing() {
        Due.holds(20, "there are none");
        KingDrops drops = Due.told("d1 0;d1 0;a1;a1 0 1;a1 0 0;");
        isNone(drops, 0, 0);
        isNone(drops, 2, 0);
        isNone(drops, 1, 0, 1, 1);
        drops = Due.told("d1 0;a1 0 1;");
        Due.is("the only LABEL is SURE", drops.fits(0), 0);
        isNone(drops, 0, 0);
        drops = Due.told("a1;");
        Due.is("one way of no LABELS", drops.fits(-1), 1);
        drops.tells(0, 0);
        Due.is("no way of no LABELS", drops.fits(-1), 0);
    }

    private static void isNone(KingDrops drops, int... told) {
        drops.forget();
        for (int i = 0; i + 1 < told.length; i += 2) {
            drops.tells(told[i], told[i + 1]);
        }
        Due.is("fits(-1)", drops.fits(-1), 0);
        for (int d = 0; d < drops.count(0); d++) {
            Due.is("fits(" + d + ")", drops.fits(d), KingDrops.NONE);
        }
        drops.forget();
    }

    private static void isSure() {
        Due.holds(20, "SURE of a DECANTER: which LABEL hangs on it in all of them");
        KingDrops drops = Due.told("d1 0;d1 0;a1 0 1;");
        drops.tells(0, 1);
        areSure(drops, 0, 1);
        drops.forget();
        drops.tells(0, 0);
        areSure(drops, 1, 0);
        drops = Due.told("d1 0;d1 0;d1 0;d1 0;d1 0;d1 0;a1 0 1 1 1 2 1 3 1;a1 4 1;");
        drops.tells(0, 1);
        areSure(drops, 0, 1, 2, 3, KingDrops.NONE, KingDrops.NONE);
        drops.tells(1, 0);
        areSure(drops, 0, 1, 2, 3, 5, 4);
    }

    private static void isSureOfNone() {
        Due.holds(20, "NONE (not the same in all, there are none)");
        KingDrops drops = Due.told("d1 0;d1 0;d1 0;a1 0 1;a1 1 1;a1 2 1;");
        areSure(drops, KingDrops.NONE, KingDrops.NONE, KingDrops.NONE);
        drops.tells(0, 0);
        areSure(drops, KingDrops.NONE, KingDrops.NONE, KingDrops.NONE);
        drops.tells(1, 1);
        areSure(drops, 2, 1, 0);
        drops.tells(2, 1);
        areSure(drops, KingDrops.NONE, KingDrops.NONE, KingDrops.NONE);
    }

    private static void areSure(KingDrops drops, int... due) {
        for (int d = 0; d < due.length; d++) {
            Due.is("fits(" + d + ")", drops.fits(d), due[d]);
        }
    }
}
