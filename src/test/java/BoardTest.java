/** Promises 1, 5 to 7 and 24: a new object, DECANTERS, ACTS, what they need, counts. */
public final class BoardTest {
    public static void main(String[] args) {
        isNew();
        tellsDecanters();
        tellsActs();
        tellsNeeds();
        counts();
        Due.ends();
    }

    private static void isNew() {
        KingDrops drops = new KingDrops();
        int[] now = {0, 0, 0, 0, 0, 0, KingDrops.BAD};
        for (int what = 0; what < now.length; what++) {
            Due.is("new now(" + what + ")", drops.now(what), now[what]);
        }
        int[] counts = {0, 0, 0, 0, 0, KingDrops.BAD};
        for (int what = 0; what < counts.length; what++) {
            Due.is("new count(" + what + ")", drops.count(what), counts[what]);
        }
        Due.is("new decanter", drops.decanter(0, 0), KingDrops.BAD);
        Due.is("new act", drops.act(0, 0), KingDrops.BAD);
        Due.is("new needs", drops.needs(0, 0), KingDrops.BAD);
        Due.is("new pours", drops.pours(0), KingDrops.BAD);
        Due.is("new tops", drops.tops(0, 1), KingDrops.BAD);
        Due.is("new labels", drops.labels(0, 1), KingDrops.BAD);
        Due.is("new undo", drops.undo(), KingDrops.STATE);
        Due.is("new tray(0)", drops.tray(0), 0);
        Due.is("new tray(1)", drops.tray(1), 0);
        Due.is("new right(0)", drops.right(0), 0);
        Due.is("new right(1)", drops.right(1), KingDrops.NONE);
        Due.is("new share(0)", drops.share(0), 0);
        Due.is("new share(1)", drops.share(1), 0);
        Due.is("new odds", drops.odds(0, 0, 0), KingDrops.BAD);
        Due.is("new tells", drops.tells(0, 0), KingDrops.BAD);
        Due.is("new forget", drops.forget(), 0);
        Due.is("new fits(-1)", drops.fits(-1), 1);
        Due.is("new fits(0)", drops.fits(0), KingDrops.BAD);
        Due.is("new mark", drops.mark(0, 0), KingDrops.NO);
        Due.is("new trace", drops.trace(), 0);
        Due.is("new back(0)", drops.back(0), KingDrops.STATE);
        Due.is("new back(1)", drops.back(1), KingDrops.STATE);
        Due.is("new keep(0)", drops.keep(0), 0);
        Due.is("new sideboard", drops.sideboard(), 0);
        Due.is("new month", drops.month(), 1);
        Due.is("a second object is its own", new KingDrops().now(0), 0);
    }

    private static void tellsDecanters() {
        KingDrops drops = Due.told("d40 5;d0 0;d0 5;d1 5;d40 1;d7 0;");
        int[] spans = {8, 0, 0, 1, 40, KingDrops.NONE};
        for (int d = 0; d < 6; d++) {
            Due.is("decanter(" + d + ", 4)", drops.decanter(d, 4), spans[d]);
            Due.is("decanter(" + d + ", 3)", drops.decanter(d, 3), d);
            Due.is("decanter(" + d + ", 2)", drops.decanter(d, 2), 0);
            Due.is("decanter(" + d + ", -1)", drops.decanter(d, -1), KingDrops.BAD);
            Due.is("decanter(" + d + ", 5)", drops.decanter(d, 5), KingDrops.BAD);
        }
        for (int wild : Due.WILD) {
            Due.is("decanter(" + wild + ", 0)", drops.decanter(wild, 0), KingDrops.BAD);
            Due.is("decanter(0, " + wild + ")", drops.decanter(0, wild), KingDrops.BAD);
        }
        Due.is("decanter(-1, 0)", drops.decanter(-1, 0), KingDrops.BAD);
        Due.is("decanter(6, 0)", drops.decanter(6, 0), KingDrops.BAD);
        drops.tops(1, 9);
        Due.is("TEA", drops.decanter(1, 2), 9);
        Due.is("SPAN without AIR", drops.decanter(1, 4), KingDrops.NONE);
        drops.month();
        Due.is("LEVEL", drops.decanter(0, 0), 35);
        Due.is("AIR", drops.decanter(0, 1), 5);
        Due.is("SPAN", drops.decanter(0, 4), 7);
        drops = Due.told("d1 1;");
        Due.is("a decanter that is not told", drops.decanter(1, 0), KingDrops.BAD);
    }

    private static void tellsActs() {
        KingDrops drops = Due.told("d20 3;d9 0;d9 5;a40 0 5 1 2;a1 2 9;a0 2 0;a99 0 9 1 9 2 9;a7;");
        int[][] due = {{40, 3, 0, 5}, {1, 4, 0, 0}, {0, 0, 0, 60}, {99, 7, 0, 0}, {7, 0, 0, 60}};
        for (int a = 0; a < 5; a++) {
            for (int what = 0; what < 4; what++) {
                Due.is("act(" + a + ", " + what + ")", drops.act(a, what), due[a][what]);
            }
            Due.is("act(" + a + ", -1)", drops.act(a, -1), KingDrops.BAD);
            Due.is("act(" + a + ", 4)", drops.act(a, 4), KingDrops.BAD);
        }
        for (int wild : Due.WILD) {
            Due.is("act(" + wild + ", 0)", drops.act(wild, 0), KingDrops.BAD);
            Due.is("act(0, " + wild + ")", drops.act(0, wild), KingDrops.BAD);
        }
        Due.is("act(-1, 0)", drops.act(-1, 0), KingDrops.BAD);
        Due.is("act(5, 0)", drops.act(5, 0), KingDrops.BAD);
        drops.pours(0);
        Due.is("DONE", drops.act(0, 2), 1);
        Due.is("LAST of one DONE", drops.act(0, 3), KingDrops.NONE);
        Due.is("LAST where too low", drops.act(3, 3), KingDrops.NONE);
        drops.month();
        Due.is("LAST behind its last", drops.act(1, 3), KingDrops.NONE);
        Due.is("LAST without needs", drops.act(4, 3), 60);
        drops = Due.told("d20 3;d9 0;a40 0 5;a1 1 5;");
        drops.labels(0, 1);
        Due.is("LAST goes by LABELS", drops.act(0, 3), 60);
        Due.is("LAST goes by LABELS too", drops.act(1, 3), 5);
        drops = Due.told("d40 1;a1 0 1;");
        Due.is("LAST of 39", drops.act(0, 3), 39);
    }

    private static void tellsNeeds() {
        KingDrops drops = Due.told("d1 0;a1 0 3;d1 0;a1 1 9 0 0;");
        int[][] due = {{3, 0}, {0, 9}};
        for (int a = 0; a < 2; a++) {
            for (int q = 0; q < 2; q++) {
                Due.is("needs(" + a + ", " + q + ")", drops.needs(a, q), due[a][q]);
            }
            Due.is("needs(" + a + ", -1)", drops.needs(a, -1), KingDrops.BAD);
            Due.is("needs(" + a + ", 2)", drops.needs(a, 2), KingDrops.BAD);
            Due.is("needs(" + a + ", 6)", drops.needs(a, 6), KingDrops.BAD);
        }
        for (int wild : Due.WILD) {
            Due.is("needs(" + wild + ", 0)", drops.needs(wild, 0), KingDrops.BAD);
            Due.is("needs(0, " + wild + ")", drops.needs(0, wild), KingDrops.BAD);
        }
        Due.is("needs(2, 0)", drops.needs(2, 0), KingDrops.BAD);
        Due.is("needs(-1, 0)", drops.needs(-1, 0), KingDrops.BAD);
        drops.labels(0, 1);
        Due.is("needs() goes by QUALITY, not by LABEL", drops.needs(0, 0), 3);
    }

    private static void counts() {
        KingDrops drops = Due.told("d1 0;d1 0;d1 0;a1;a2;");
        drops.tells(0, 1);
        drops.month();
        drops.month();
        Due.types(drops, "abcd");
        int[] due = {3, 2, 1, 2, 4};
        for (int what = 0; what < 5; what++) {
            Due.is("count(" + what + ")", drops.count(what), due[what]);
        }
        Due.is("count(-1)", drops.count(-1), KingDrops.BAD);
        Due.is("count(5)", drops.count(5), KingDrops.BAD);
        for (int wild : Due.WILD) {
            Due.is("count(" + wild + ")", drops.count(wild), KingDrops.BAD);
        }
    }
}
