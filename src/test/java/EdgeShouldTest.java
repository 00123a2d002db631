/** Promises 14 to 17 at their edges: what should be done. Each test names the sentence it holds. */
public final class EdgeShouldTest {
    private static final String SIX = "d1 0;d1 0;d1 0;d1 0;d1 0;d1 0;";

    public static void main(String[] args) {
        asksTray();
        traysOfNothing();
        traysOneBehindAnother();
        traysLeastBits();
        traysWhetherWell();
        traysNotDone();
        asksRight();
        rightsNone();
        rightsFewest();
        rightsTheLeastTwo();
        rightsInAllWays();
        asksShare();
        sharesByFirst();
        sharesMostAlike();
        sharesLeastBits();
        sharesInAllWays();
        asksOdds();
        oddsByX();
        oddsOfAll();
        oddsInLeastTerms();
        oddsWhereTooLow();
        oddsWhetherDone();
        changesNothing();
        Due.ends();
    }

    private static void isTray(String text, int which, int worth) {
        isTray(text, Due.told(text), which, worth);
    }

    private static void isTray(String name, KingDrops drops, int which, int worth) {
        Due.is("tray(0) of " + name, drops.tray(0), which);
        Due.is("tray(1) of " + name, drops.tray(1), worth);
    }

    private static void asksTray() {
        Due.holds(14, "TRAY: which (what = 0, bits), how much (1). BAD.");
        KingDrops drops = Due.told("d9 0;a5 0 9;");
        Due.is("tray(-1)", drops.tray(-1), KingDrops.BAD);
        isTray("one", drops, 1, 5);
        Due.is("tray(2)", drops.tray(2), KingDrops.BAD);
    }

    private static void traysOfNothing() {
        Due.holds(14, "that could be POURED for one behind another NOW that of most WORTH");
        isTray("", 0, 0);
        isTray("d9 0;", 0, 0);
        isTray("a0;", 0, 0);
        isTray("a1;", 1, 1);
        isTray("d8 0;a99 0 9;", 0, 0);
        isTray("d9 0;a99 0 9;", 1, 99);
        isTray("a99;a99;a99;a99;a99;", 31, 495);
        isTray(SIX + "a99 0 2;a99 1 2;a99 2 2;a99 3 2;a99 4 2;", 0, 0);
    }

    private static void traysOneBehindAnother() {
        Due.holds(14, "that could be POURED for one behind another NOW");
        isTray("d10 0;a5 0 5;a6 0 5;", 3, 11);
        isTray("d9 0;a5 0 5;a6 0 5;", 2, 6);
        isTray("d10 0;a9 0 9;a3 0 3;a3 0 3;a4 0 4;", 14, 10);
        isTray("d10 0;a11 0 9;a3 0 3;a3 0 3;a4 0 4;", 1, 11);
        isTray("d40 0;a5 0 8;a5 0 8;a5 0 8;a5 0 8;a5 0 8;", 31, 25);
        isTray("d39 0;a5 0 8;a5 0 8;a5 0 8;a5 0 8;a5 0 8;", 15, 20);
        isTray("d9 0;d8 0;a5 0 5 1 4;a6 0 4 1 5;", 2, 6);
        isTray("d9 0;d9 0;a5 0 5 1 4;a6 0 4 1 5;", 3, 11);
    }

    private static void traysLeastBits() {
        Due.holds(14, "of several the least bits: which; how much");
        isTray("d9 0;a5 0 9;a5 0 9;", 1, 5);
        isTray("d9 0;a5 0 9;a6 0 9;", 2, 6);
        isTray("d9 0;a3 0 4;a3 0 5;a6 0 9;", 3, 6);
        isTray("d9 0;a6 0 9;a3 0 4;a3 0 5;", 1, 6);
        isTray("a0;a5;a0;a5;a0;", 10, 10);
    }

    private static void traysWhetherWell() {
        Due.holds(14, "(whether WELL or not)");
        KingDrops drops = Due.told("d5 0;d9 0;x0 1;a5 0 9;a4 1 5;");
        isTray("by LABELS that are not right", drops, 3, 9);
        drops.labels(0, 1);
        isTray("by LABELS that are right", drops, 2, 4);
        drops.tops(0, 4);
        isTray("by TEA", drops, 3, 9);
    }

    private static void traysNotDone() {
        Due.holds(14, "TRAY: of all sets of ACTS not DONE");
        KingDrops drops = Due.told("d9 0;a5 0 1;a6;a7 0 8;");
        isTray("all", drops, 7, 18);
        drops.pours(0);
        isTray("without the first", drops, 6, 13);
        drops.pours(2);
        isTray("without the last", drops, 2, 6);
        drops.pours(1);
        isTray("none is left", drops, 0, 0);
        drops.undo();
        isTray("one is undone", drops, 2, 6);
    }

    private static void isRight(String text, int changes, int first) {
        KingDrops drops = Due.told(text);
        Due.is("right(0) of " + text, drops.right(0), changes);
        Due.is("right(1) of " + text, drops.right(1), first);
        for (int left = changes; left > 0; left--) {
            int two = drops.right(1);
            drops.labels(two / 10, two % 10);
            Due.is("right(0) then", drops.right(0), left - 1);
        }
        Due.is("right(1) behind all of them", drops.right(1), KingDrops.NONE);
    }

    private static void asksRight() {
        Due.holds(15, "RIGHT: how many (what = 0), the first two (1; NONE). BAD.");
        KingDrops drops = Due.told("d9 0;d9 0;x0 1;");
        Due.is("right(-1)", drops.right(-1), KingDrops.BAD);
        Due.is("right(0)", drops.right(0), 1);
        Due.is("right(1)", drops.right(1), 1);
        Due.is("right(2)", drops.right(2), KingDrops.BAD);
    }

    private static void rightsNone() {
        Due.holds(15, "NONE (all are)");
        isRight("", 0, KingDrops.NONE);
        isRight("d1 0;", 0, KingDrops.NONE);
        isRight(SIX, 0, KingDrops.NONE);
        isRight(SIX + "x0 1;", 1, 1);
        isRight(SIX + "x0 1;x1 0;", 0, KingDrops.NONE);
    }

    private static void rightsFewest() {
        Due.holds(15, "RIGHT: the fewest changes of two LABELS by which each DECANTER has its own: how many");
        isRight(SIX + "x4 5;", 1, 45);
        isRight(SIX + "x0 1;x2 3;", 2, 1);
        isRight(SIX + "x0 1;x1 2;", 2, 1);
        isRight(SIX + "x0 1;x2 3;x4 5;", 3, 1);
        isRight(SIX + "x0 1;x1 2;x3 4;x4 5;", 4, 1);
        isRight(SIX + "x0 1;x1 2;x2 3;x3 4;", 4, 1);
        isRight(SIX + "x0 1;x1 2;x2 3;x3 4;x4 5;", 5, 1);
    }

    private static void rightsTheLeastTwo() {
        Due.holds(15, "(10 times the lesser DECANTER and the other one, the least such)");
        isRight(SIX + "x1 0;", 1, 1);
        isRight(SIX + "x5 0;", 1, 5);
        isRight(SIX + "x5 4;", 1, 45);
        isRight(SIX + "x3 5;x1 2;", 2, 12);
        // These hang in rings, so that only the one or the other of the two is set right.
        isRight("d1 0;d1 0;d1 0;x0 1;x1 2;", 2, 1);
        isRight("d1 0;d1 0;d1 0;x1 2;x0 1;", 2, 1);
        isRight(SIX + "x0 2;x2 4;x4 1;x1 3;x3 5;", 5, 2);
        isRight(SIX + "x0 5;x5 3;x3 1;", 3, 1);
        isRight(SIX + "x0 3;x3 5;x5 2;", 3, 2);
    }

    /** All ways in which two to six LABELS can hang, each beside a search through all changes. */
    private static void rightsInAllWays() {
        Due.holds(15, "; the two of the first that sets one right at least (10 times the lesser DECANTER and the other one, the least such)");
        for (int n = 2; n <= 6; n++) {
            int[] due = Changes.fewest(n);
            for (int[] way : Changes.ways(n)) {
                KingDrops drops = Due.told("d1 0;".repeat(n));
                hangs(drops, way);
                int changes = due[Changes.number(way)];
                int two = Changes.leastThatSetsOne(way);
                Due.is("right(0) of " + Changes.number(way), drops.right(0), changes);
                Due.is("right(1) of " + Changes.number(way), drops.right(1), changes == 0 ? KingDrops.NONE : two);
                if (changes > 0) {
                    drops.labels(two / 10, two % 10);
                    Due.is("it is the first of the fewest", drops.right(0), changes - 1);
                }
            }
        }
    }

    private static void hangs(KingDrops drops, int[] way) {
        for (int d = 0; d < way.length; d++) {
            for (int e = d + 1; e < way.length; e++) {
                if (drops.decanter(e, 3) == way[d]) {
                    drops.labels(d, e);
                }
            }
        }
    }

    private static void isShare(String text, int which, int difference) {
        isShare(text, Due.told(text), which, difference);
    }

    private static void isShare(String name, KingDrops drops, int which, int difference) {
        Due.is("share(0) of " + name, drops.share(0), which);
        Due.is("share(1) of " + name, drops.share(1), difference);
    }

    private static void asksShare() {
        Due.holds(16, "SHARE: which (what = 0, bits), by how much (1). BAD.");
        KingDrops drops = Due.told("d9 0;d7 0;");
        Due.is("share(-1)", drops.share(-1), KingDrops.BAD);
        isShare("two", drops, 1, 2);
        Due.is("share(2)", drops.share(2), KingDrops.BAD);
    }

    private static void sharesByFirst() {
        Due.holds(16, "of two heirs (the first one has DECANTER 0)");
        isShare("", 0, 0);
        isShare("d0 0;", 1, 0);
        isShare("d40 0;", 1, 40);
        isShare("d0 0;d40 0;", 1, 40);
        isShare("d40 0;d0 0;", 1, 40);
        isShare("d1 0;d2 0;d4 0;d8 0;d16 0;d32 0;", 31, 1);
    }

    private static void sharesMostAlike() {
        Due.holds(16, "that by which both have LEVELS most alike, together");
        isShare("d9 0;d9 0;", 1, 0);
        isShare("d9 0;d8 0;", 1, 1);
        isShare("d40 0;d40 0;d40 0;d40 0;d40 0;d39 0;", 7, 1);
        isShare("d3 0;d4 0;d7 0;", 3, 0);
        isShare("d3 0;d4 0;d8 0;", 3, 1);
        isShare("d1 0;d1 0;d1 0;d1 0;d1 0;d40 0;", 31, 35);
        KingDrops drops = Due.told("d9 1;d3 0;d3 0;");
        isShare("ahead of TEA", drops, 1, 3);
        drops.tops(1, 3);
        isShare("TEA is of the LEVEL", drops, 1, 0);
        drops.month();
        isShare("behind a MONTH", drops, 1, 1);
    }

    private static void sharesLeastBits() {
        Due.holds(16, "of several the least bits of the first one: which (bits); by how much they differ");
        isShare("d0 0;d0 0;d0 0;d0 0;d0 0;d0 0;", 1, 0);
        isShare("d9 0;d0 0;d9 0;", 1, 0);
        isShare("d9 0;d9 0;d9 0;d9 0;", 3, 0);
        isShare("d9 0;d9 0;d9 0;", 1, 9);
        isShare("d2 0;d4 0;d3 0;d3 0;", 3, 0);
        isShare("d2 0;d3 0;d3 0;d4 0;", 9, 0);
    }

    /** Many LEVELS of four DECANTERS, each beside all eight ways to share them. */
    private static void sharesInAllWays() {
        Due.holds(16, "SHARE: of all ways to give each DECANTER to one of two heirs");
        int[] some = {0, 1, 2, 5, 9, 40};
        for (int i = 0; i < 6 * 6 * 6 * 6; i++) {
            int[] levels = {some[i % 6], some[i / 6 % 6], some[i / 36 % 6], some[i / 216]};
            int which = 0;
            int least = Integer.MAX_VALUE;
            for (int bits = 15; bits > 0; bits -= 2) {
                int first = 0;
                int second = 0;
                for (int d = 0; d < 4; d++) {
                    first += (bits & 1 << d) != 0 ? levels[d] : 0;
                    second += (bits & 1 << d) != 0 ? 0 : levels[d];
                }
                if (Math.abs(first - second) <= least) {
                    least = Math.abs(first - second);
                    which = bits;
                }
            }
            isShare("d" + levels[0] + " 0;d" + levels[1] + " 0;d" + levels[2] + " 0;d" + levels[3] + " 0;", which, least);
        }
    }

    private static void areOdds(KingDrops drops, int a, int x, int upper, int lower) {
        Due.is("odds(" + a + ", " + x + ", 0)", drops.odds(a, x, 0), upper);
        Due.is("odds(" + a + ", " + x + ", 1)", drops.odds(a, x, 1), lower);
    }

    private static void asksOdds() {
        Due.holds(17, "ODDS: upper (what = 0), lower number (1), in least terms. BAD.");
        KingDrops drops = Due.told("d9 0;a5 0 1;a6;");
        areOdds(drops, 0, 1, 9, 10);
        areOdds(drops, 1, 1, 1, 1);
        Due.is("odds(-1, 1, 0)", drops.odds(-1, 1, 0), KingDrops.BAD);
        Due.is("odds(2, 1, 0)", drops.odds(2, 1, 0), KingDrops.BAD);
        Due.is("odds(0, 1, -1)", drops.odds(0, 1, -1), KingDrops.BAD);
        Due.is("odds(0, 1, 2)", drops.odds(0, 1, 2), KingDrops.BAD);
    }

    private static void oddsByX() {
        Due.holds(17, "by x (0 .. 10): each DECANTER is cracked by x in 10");
        KingDrops drops = Due.told("d9 0;a5 0 1;a6;");
        areOdds(drops, 0, 0, 1, 1);
        areOdds(drops, 0, 10, 0, 1);
        areOdds(drops, 1, 0, 1, 1);
        areOdds(drops, 1, 10, 1, 1);
        for (int what = 0; what < 2; what++) {
            Due.is("odds(0, -1, " + what + ")", drops.odds(0, -1, what), KingDrops.BAD);
            Due.is("odds(0, 11, " + what + ")", drops.odds(0, 11, what), KingDrops.BAD);
            Due.is("odds(1, -1, " + what + ")", drops.odds(1, -1, what), KingDrops.BAD);
            Due.is("odds(1, 11, " + what + ")", drops.odds(1, 11, what), KingDrops.BAD);
        }
    }

    private static void oddsOfAll() {
        Due.holds(17, "for itself (empty): that it could be POURED for: a fraction");
        KingDrops drops = Due.told(SIX + "a5;a5 0 1;a5 0 1 5 1;a5 0 1 1 1 2 1 3 1 4 1 5 1;");
        areOdds(drops, 0, 9, 1, 1);
        areOdds(drops, 1, 9, 1, 10);
        areOdds(drops, 2, 9, 1, 100);
        areOdds(drops, 3, 9, 1, 1000000);
        areOdds(drops, 3, 1, 531441, 1000000);
        areOdds(drops, 3, 3, 117649, 1000000);
        areOdds(drops, 3, 10, 0, 1);
        areOdds(drops, 3, 0, 1, 1);
    }

    private static void oddsInLeastTerms() {
        Due.holds(17, "lower number (1), in least terms");
        KingDrops drops = Due.told(SIX + "a5 0 1;a5 0 1 5 1;");
        int[][] due = {{1, 1}, {9, 10}, {4, 5}, {7, 10}, {3, 5}, {1, 2}, {2, 5}, {3, 10}, {1, 5}, {1, 10}, {0, 1}};
        for (int x = 0; x <= 10; x++) {
            areOdds(drops, 0, x, due[x][0], due[x][1]);
            areOdds(drops, 1, x, due[x][0] * due[x][0], due[x][1] * due[x][1]);
        }
    }

    private static void oddsWhereTooLow() {
        Due.holds(17, "that it could be POURED for");
        KingDrops drops = Due.told("d9 0;d8 0;a5 0 9;a5 1 9;a5 0 9 1 9;a5 0 0 1 0;");
        areOdds(drops, 0, 2, 4, 5);
        areOdds(drops, 1, 2, 0, 1);
        areOdds(drops, 1, 0, 0, 1);
        areOdds(drops, 1, 10, 0, 1);
        areOdds(drops, 2, 0, 0, 1);
        areOdds(drops, 3, 10, 1, 1);
        drops.tops(1, 1);
        areOdds(drops, 1, 2, 4, 5);
        areOdds(drops, 2, 2, 16, 25);
        drops = Due.told("d9 0;d8 0;x0 1;a5 0 9;a5 1 9;");
        areOdds(drops, 0, 2, 0, 1);
        areOdds(drops, 1, 2, 4, 5);
    }

    private static void oddsWhetherDone() {
        Due.holds(17, "ODDS of an ACT (DONE or not)");
        KingDrops drops = Due.told("d18 0;a5 0 9;");
        areOdds(drops, 0, 5, 1, 2);
        drops.pours(0);
        areOdds(drops, 0, 5, 1, 2);
        drops = Due.told("d17 0;a5 0 9;");
        drops.pours(0);
        areOdds(drops, 0, 5, 0, 1);
    }

    /** All that is asked may be asked again and again, refused or not. */
    private static void changesNothing() {
        Due.holds(14, "(Nothing is changed.)");
        Twins.Calls told = x -> {
            Due.reads(x, "d9 1;d7 0;d20 2;x0 1;a8 0 2;a5 2 9;a9 1 9;");
            x.pours(0);
            x.month();
            x.keep(0);
            x.tells(1, 1);
        };
        for (int what = -1; what <= 2; what++) {
            int asked = what;
            Twins.leave("tray(" + what + ")", told, x -> x.tray(asked));
            Twins.leave("right(" + what + ")", told, x -> x.right(asked));
            Twins.leave("share(" + what + ")", told, x -> x.share(asked));
            Twins.leave("odds(0, 4, " + what + ")", told, x -> x.odds(0, 4, asked));
            Twins.leave("odds(1, 11, " + what + ")", told, x -> x.odds(1, 11, asked));
        }
        for (int what = -1; what <= 6; what++) {
            int asked = what;
            Twins.leave("now(" + what + ")", told, x -> x.now(asked));
            Twins.leave("fits(" + what + ")", told, x -> x.fits(asked));
            Twins.leave("count(" + what + ")", told, x -> x.count(asked));
            Twins.leave("act(1, " + what + ")", told, x -> x.act(1, asked));
            Twins.leave("needs(1, " + what + ")", told, x -> x.needs(1, asked));
            Twins.leave("decanter(1, " + what + ")", told, x -> x.decanter(1, asked));
        }
        Twins.leave("trace()", told, KingDrops::trace);
    }
}
