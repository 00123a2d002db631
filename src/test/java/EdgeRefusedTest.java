/** All promises: each call that is refused answers the first reason that holds, and changes nothing. */
public final class EdgeRefusedTest {
    private static final String TEXT = "d20 2;d9 1;d15 0;a40 0 5 1 2;a7 2 9;a3;a9 0 9 1 9;x0 1;";

    public static void main(String[] args) {
        changesNothing();
        refusesByBadFirst();
        refusesByBadAheadOfFull();
        refusesMonthAtTheEnd();
        refusesWild();
        Due.ends();
    }

    /** Something of each sort has been done, and THE TEXT is begun anew. */
    private static void begun(KingDrops drops) {
        Due.reads(drops, TEXT);
        drops.month();
        drops.keep(0);
        drops.pours(1);
        drops.tops(2, 2);
        drops.labels(0, 2);
        drops.tells(0, 1);
        drops.tells(3, 0);
        drops.keep(1);
        drops.mark(4, 0);
        drops.tops(1, 30);
        drops.month();
        Due.types(drops, "d5 5");
    }

    private static void isBad(String name, Twins.Call call) {
        Twins.leaves(name, EdgeRefusedTest::begun, call, KingDrops.BAD);
    }

    private static void isState(String name, Twins.Call call) {
        Twins.leaves(name, EdgeRefusedTest::begun, call, KingDrops.STATE);
    }

    private static void changesNothing() {
        Due.holds(8, "Refused, and nothing changes");
        isState("pours(1): DONE", x -> x.pours(1));
        isState("pours(3): too low", x -> x.pours(3));
        isBad("pours(4)", x -> x.pours(4));
        isBad("pours(-1)", x -> x.pours(-1));
        Due.holds(10, "Refused, and nothing changes");
        isState("tops(1, 5): above 40", x -> x.tops(1, 5));
        isBad("tops(3, 1)", x -> x.tops(3, 1));
        isBad("tops(-1, 1)", x -> x.tops(-1, 1));
        isBad("tops(0, 0)", x -> x.tops(0, 0));
        isBad("tops(0, 41)", x -> x.tops(0, 41));
        Due.holds(11, "Refused, and nothing changes");
        isBad("labels(0, 0)", x -> x.labels(0, 0));
        isBad("labels(0, 3)", x -> x.labels(0, 3));
        isBad("labels(-1, 0)", x -> x.labels(-1, 0));
        Due.holds(18, "Refused, and nothing changes");
        isBad("tells(4, 1)", x -> x.tells(4, 1));
        isBad("tells(0, 2)", x -> x.tells(0, 2));
        Due.holds(21, "Refused, and nothing changes");
        Twins.leaves("mark(6, 0)", EdgeRefusedTest::begun, x -> x.mark(6, 0), KingDrops.NO);
        Twins.leaves("mark(0, 4)", EdgeRefusedTest::begun, x -> x.mark(0, 4), KingDrops.NO);
        Due.holds(22, "Refused, and nothing changes");
        isBad("keep(2)", x -> x.keep(2));
        isBad("keep(-1)", x -> x.keep(-1));
        Due.holds(23, "Refused, and nothing changes");
        isBad("back(2)", x -> x.back(2));
        isBad("back(-1)", x -> x.back(-1));
        Due.holds(2, "Refused, and nothing changes");
        isBad("type(256)", x -> x.type(256));
        Due.holds(4, "Refused, and nothing changes");
        Twins.leaves("sideboard() of a FAULT", EdgeRefusedTest::begun, KingDrops::sideboard, -14);
    }

    private static void refusesByBadFirst() {
        Due.holds(8, "the first of these: BAD (a number is not as told, or there is no such thing), STATE (as told), FULL.");
        Twins.leaves("pours() of none behind one DONE", x -> {
            Due.reads(x, "d0 0;a5;a5 0 9;");
            x.pours(0);
        }, x -> x.pours(2), KingDrops.BAD);
        Twins.Calls brim = x -> Due.reads(x, "d40 0;");
        Due.holds(10, "the first of these: BAD (a number is not as told, or there is no such thing), STATE (as told), FULL.");
        Twins.leaves("tops(0, 41): BAD, and above 40", brim, x -> x.tops(0, 41), KingDrops.BAD);
        Twins.leaves("tops(0, 0): BAD, not above 40", brim, x -> x.tops(0, 0), KingDrops.BAD);
        Twins.leaves("tops(1, 40): no such DECANTER", brim, x -> x.tops(1, 40), KingDrops.BAD);
        Twins.leaves("tops(0, 1): STATE", brim, x -> x.tops(0, 1), KingDrops.STATE);
        Due.holds(23, "the first of these: BAD (a number is not as told, or there is no such thing), STATE (as told), FULL.");
        Twins.leaves("back(2): BAD, and none was kept", brim, x -> x.back(2), KingDrops.BAD);
        Twins.leaves("back(1): STATE", brim, x -> x.back(1), KingDrops.STATE);
    }

    private static void refusesByBadAheadOfFull() {
        Due.holds(2, "the first of these: BAD (a number is not as told, or there is no such thing), STATE (as told), FULL.");
        Twins.Calls full = x -> Due.types(x, " ".repeat(145) + "d1 1;");
        Twins.leaves("type(256): BAD, and FULL", full, x -> x.type(256), KingDrops.BAD);
        Twins.leaves("type(-1): BAD, and FULL", full, x -> x.type(-1), KingDrops.BAD);
        Twins.leaves("type(255): FULL", full, x -> x.type(255), KingDrops.FULL);
        Twins.leaves("type(0): FULL", full, x -> x.type(0), KingDrops.FULL);
        Due.holds(18, "the first of these: BAD (a number is not as told, or there is no such thing), STATE (as told), FULL.");
        Twins.Calls told = x -> {
            Due.reads(x, "d9 1;a5 0 1;");
            for (int i = 0; i < 6; i++) {
                x.tells(0, 1);
            }
        };
        Twins.leaves("tells(1, 1): BAD, and FULL", told, x -> x.tells(1, 1), KingDrops.BAD);
        Twins.leaves("tells(0, 2): BAD, and FULL", told, x -> x.tells(0, 2), KingDrops.BAD);
        Twins.leaves("tells(0, 1): FULL", told, x -> x.tells(0, 1), KingDrops.FULL);
    }

    private static void refusesMonthAtTheEnd() {
        Due.holds(9, "STATE: there were 999.");
        // These are more than the 512 calls of which the document tells: the class keeps to its sentences beyond them.
        Twins.leaves("month()", x -> {
            begun(x);
            for (int month = x.now(0); month < 999; month++) {
                x.month();
            }
        }, KingDrops::month, KingDrops.STATE);
        Twins.leaves("undo() of none, in no MONTH", x -> Due.reads(x, TEXT), KingDrops::undo, KingDrops.STATE);
    }

    /** Numbers far from what they may be, those among them that would wrap around to one that may be. */
    private static void refusesWild() {
        Due.holds(5, "BAD (a number is not as told, or there is no such thing)");
        for (int wild : new int[] {Integer.MIN_VALUE, Integer.MIN_VALUE + 1, -256, -2, 256, 65536, 1 << 30, Integer.MAX_VALUE}) {
            KingDrops drops = new KingDrops();
            begun(drops);
            int bad = KingDrops.BAD;
            Due.is("type(" + wild + ")", drops.type(wild), bad);
            Due.is("decanter(" + wild + ", 0)", drops.decanter(wild, 0), bad);
            Due.is("decanter(0, " + wild + ")", drops.decanter(0, wild), bad);
            Due.is("act(" + wild + ", 0)", drops.act(wild, 0), bad);
            Due.is("act(0, " + wild + ")", drops.act(0, wild), bad);
            Due.is("needs(" + wild + ", 0)", drops.needs(wild, 0), bad);
            Due.is("needs(0, " + wild + ")", drops.needs(0, wild), bad);
            Due.is("pours(" + wild + ")", drops.pours(wild), bad);
            Due.is("tops(" + wild + ", 1)", drops.tops(wild, 1), bad);
            Due.is("tops(0, " + wild + ")", drops.tops(0, wild), bad);
            Due.is("labels(" + wild + ", 0)", drops.labels(wild, 0), bad);
            Due.is("labels(0, " + wild + ")", drops.labels(0, wild), bad);
            Due.is("labels(" + wild + ", " + wild + ")", drops.labels(wild, wild), bad);
            Due.is("now(" + wild + ")", drops.now(wild), bad);
            Due.is("tray(" + wild + ")", drops.tray(wild), bad);
            Due.is("right(" + wild + ")", drops.right(wild), bad);
            Due.is("share(" + wild + ")", drops.share(wild), bad);
            Due.is("odds(" + wild + ", 1, 0)", drops.odds(wild, 1, 0), bad);
            Due.is("odds(0, " + wild + ", 0)", drops.odds(0, wild, 0), bad);
            Due.is("odds(0, 1, " + wild + ")", drops.odds(0, 1, wild), bad);
            Due.is("tells(" + wild + ", 0)", drops.tells(wild, 0), bad);
            Due.is("tells(0, " + wild + ")", drops.tells(0, wild), bad);
            Due.is("fits(" + wild + ")", drops.fits(wild), bad);
            Due.is("mark(" + wild + ", 0)", drops.mark(wild, 0), KingDrops.NO);
            Due.is("mark(0, " + wild + ")", drops.mark(0, wild), KingDrops.NO);
            Due.is("keep(" + wild + ")", drops.keep(wild), bad);
            Due.is("back(" + wild + ")", drops.back(wild), bad);
            Due.is("count(" + wild + ")", drops.count(wild), bad);
        }
    }
}
