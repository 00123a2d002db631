/** Promises 8 to 13: what is done, and how it is undone. */
public final class DoneTest {
    public static void main(String[] args) {
        pours();
        pouringWell();
        months();
        tops();
        changesLabels();
        undoes();
        undoesAllOfSix();
        forgetsOldSteps();
        tellsNow();
        Due.ends();
    }

    private static void areLevels(KingDrops drops, int... due) {
        for (int d = 0; d < due.length; d++) {
            Due.is("LEVEL of " + d, drops.decanter(d, 0), due[d]);
        }
    }

    private static void pours() {
        KingDrops drops = Due.told("d9 0;d5 0;a30 0 4 1 5;a20 0 5;a10 0 6;a1 1 1;");
        Due.is("pours(0)", drops.pours(0), 1);
        areLevels(drops, 5, 0);
        Due.is("pours(0) again", drops.pours(0), KingDrops.STATE);
        Due.is("pours(2): one drop too few", drops.pours(2), KingDrops.STATE);
        Due.is("pours(3): an empty one", drops.pours(3), KingDrops.STATE);
        Due.is("EARNED", drops.now(2), 30);
        Due.is("steps", drops.count(3), 1);
        Due.is("pours(1)", drops.pours(1), 1);
        areLevels(drops, 0, 0);
        Due.is("EARNED, both", drops.now(2), 50);
        Due.is("DONE", drops.now(1), 3);
        Due.is("pours(-1)", drops.pours(-1), KingDrops.BAD);
        Due.is("pours(4)", drops.pours(4), KingDrops.BAD);
        for (int wild : Due.WILD) {
            Due.is("pours(" + wild + ")", drops.pours(wild), KingDrops.BAD);
        }
    }

    private static void pouringWell() {
        KingDrops drops = Due.told("d9 0;d8 0;d7 0;x0 1;a5 0 2;a6 2 3;a7 1 0 2 1;a8;a9 1 1;");
        Due.is("a wrong LABEL", drops.pours(0), 0);
        areLevels(drops, 9, 6, 7);
        Due.is("BLUNDERS", drops.now(3), 1);
        Due.is("EARNED of a BLUNDER", drops.now(2), 0);
        Due.is("its own LABEL", drops.pours(1), 1);
        Due.is("a wrong LABEL that it needs no drops of", drops.pours(2), 1);
        Due.is("TEA", drops.tops(0, 1), 10);
        Due.is("TEA that it needs no drops of", drops.pours(3), 1);
        drops.labels(0, 1);
        Due.is("its own LABEL again, no TEA", drops.pours(4), 1);
        Due.is("EARNED", drops.now(2), 6 + 7 + 8 + 9);
        Due.is("one drop by a wrong LABEL", isWell("d9 0;d9 0;x0 1;a5 1 1;"), 0);
        Due.is("one drop by its own", isWell("d9 0;d9 0;a5 1 1;"), 1);
        drops = Due.told("d9 0;a5 0 1;");
        drops.tops(0, 1);
        Due.is("one drop of TEA", drops.pours(0), 0);
        drops = Due.told("d2 0;d2 0;a5 0 9;a7 1 2 0 0;a3 0 1;");
        drops.tops(0, 7);
        Due.is("TEA poured away is a BLUNDER", drops.pours(0), 0);
        Due.is("TEA is gone with the LEVEL", drops.decanter(0, 2), 0);
        drops = Due.told("d9 0;a5 0 4;a1 0 5;a1 0 1;");
        drops.tops(0, 7);
        drops.pours(0);
        Due.is("TEA stays while the LEVEL is as much", drops.decanter(0, 2), 7);
        Due.is("LEVEL of it", drops.decanter(0, 0), 12);
        drops.pours(1);
        Due.is("TEA where LEVEL is the same", drops.decanter(0, 2), 7);
        drops.pours(2);
        Due.is("TEA becomes LEVEL", drops.decanter(0, 2), 6);
        Due.is("BLUNDERS of three", drops.now(3), 3);
    }

    private static int isWell(String text) {
        return Due.told(text).pours(0);
    }

    private static void months() {
        KingDrops drops = Due.told("d10 4;d3 0;d1 5;");
        Due.is("month()", drops.month(), 1);
        areLevels(drops, 6, 3, 0);
        drops.tops(0, 10);
        drops.tops(1, 2);
        drops.tops(2, 3);
        Due.is("month() 2", drops.month(), 2);
        areLevels(drops, 12, 5, 0);
        Due.is("TEA below LEVEL", drops.decanter(0, 2), 10);
        Due.is("TEA without AIR", drops.decanter(1, 2), 2);
        Due.is("TEA gone", drops.decanter(2, 2), 0);
        Due.is("month() 3", drops.month(), 3);
        Due.is("TEA becomes LEVEL", drops.decanter(0, 2), 8);
        // The 999th can't come within the 512 calls for which an object's answers are promised.
        for (int i = 4; i <= 450; i++) {
            Due.is("month()", drops.month(), i);
        }
        Due.is("MONTHS", drops.now(0), 450);
        Due.is("steps", drops.undo(), 9);
        Due.is("month() again", drops.month(), 450);
    }

    private static void tops() {
        KingDrops drops = Due.told("d10 1;d0 0;");
        Due.is("tops(0, 31)", drops.tops(0, 31), KingDrops.STATE);
        Due.is("tops(0, 30)", drops.tops(0, 30), 40);
        Due.is("tops(0, 1)", drops.tops(0, 1), KingDrops.STATE);
        Due.is("TEA", drops.decanter(0, 2), 30);
        Due.is("steps", drops.count(3), 1);
        Due.is("tops(1, 40)", drops.tops(1, 40), 40);
        Due.is("undo()", drops.undo(), 1);
        Due.is("tops(1, 1)", drops.tops(1, 1), 1);
        Due.is("tops(1, 2)", drops.tops(1, 2), 3);
        Due.is("TEA of both", drops.decanter(1, 2), 3);
        int[][] bad = {{0, 0}, {0, 41}, {0, -1}, {-1, 1}, {2, 1}, {2, 41}};
        for (int[] args : bad) {
            Due.is("tops(" + args[0] + ", " + args[1] + ")", drops.tops(args[0], args[1]), KingDrops.BAD);
        }
        for (int wild : Due.WILD) {
            Due.is("tops(" + wild + ", 1)", drops.tops(wild, 1), KingDrops.BAD);
            Due.is("tops(0, " + wild + ")", drops.tops(0, wild), KingDrops.BAD);
        }
    }

    private static void changesLabels() {
        KingDrops drops = Due.told("d1 0;d2 0;d3 0;d4 0;");
        Due.is("labels(0, 1)", drops.labels(0, 1), 2);
        Due.is("labels(2, 0)", drops.labels(2, 0), 1);
        int[] due = {2, 0, 1, 3};
        for (int d = 0; d < 4; d++) {
            Due.is("LABEL of " + d, drops.decanter(d, 3), due[d]);
            Due.is("labels(" + d + ", " + d + ")", drops.labels(d, d), KingDrops.BAD);
        }
        areLevels(drops, 1, 2, 3, 4);
        Due.is("labels(3, 0)", drops.labels(3, 0), 0);
        Due.is("labels(3, 0) again", drops.labels(3, 0), 1);
        Due.is("labels(0, 2)", drops.labels(0, 2), 2);
        Due.is("labels(1, 0)", drops.labels(1, 0), 4);
        Due.is("labels(-1, 0)", drops.labels(-1, 0), KingDrops.BAD);
        Due.is("labels(0, 4)", drops.labels(0, 4), KingDrops.BAD);
        for (int wild : Due.WILD) {
            Due.is("labels(" + wild + ", 0)", drops.labels(wild, 0), KingDrops.BAD);
            Due.is("labels(0, " + wild + ")", drops.labels(0, wild), KingDrops.BAD);
        }
        Due.is("steps", drops.count(3), 6);
    }

    private static void undoes() {
        KingDrops drops = Due.told("d10 3;d20 1;a5 0 2;a6 1 4;");
        drops.tells(0, 1);
        drops.pours(0);
        drops.month();
        drops.tops(0, 8);
        drops.labels(0, 1);
        drops.pours(1);
        Due.is("BLUNDERS", drops.now(3), 1);
        drops.tells(1, 0);
        Due.is("undo() of POURED", drops.undo(), 4);
        Due.is("BLUNDERS", drops.now(3), 0);
        Due.is("DONE", drops.now(1), 1);
        areLevels(drops, 13, 19);
        Due.is("undo() of CHANGED", drops.undo(), 3);
        Due.is("LABEL", drops.decanter(0, 3), 0);
        Due.is("TEA", drops.decanter(0, 2), 8);
        Due.is("undo() of TOPPED up", drops.undo(), 2);
        Due.is("TEA", drops.decanter(0, 2), 0);
        areLevels(drops, 5, 19);
        Due.is("undo() of a MONTH", drops.undo(), 1);
        Due.is("MONTHS", drops.now(0), 0);
        areLevels(drops, 8, 20);
        Due.is("EARNED", drops.now(2), 5);
        Due.is("undo() of the first", drops.undo(), 0);
        areLevels(drops, 10, 20);
        Due.is("EARNED", drops.now(2), 0);
        Due.is("DONE", drops.now(1), 0);
        Due.is("undo() of none", drops.undo(), KingDrops.STATE);
        Due.is("what was TOLD stays", drops.count(2), 2);
    }

    private static void undoesAllOfSix() {
        KingDrops drops = Due.told("d1 1;d2 1;d3 1;d4 1;d5 1;d6 1;x0 1;x1 2;x2 3;x3 4;x4 5;a5 0 1;a6 1 1;a7;a8 2 1;");
        for (int d = 0; d < 6; d++) {
            drops.tops(d, 20 + d);
        }
        drops.pours(3);
        drops.pours(1);
        drops.pours(2);
        drops.month();
        drops.labels(2, 5);
        Due.is("LABEL of 5", drops.decanter(5, 3), 3);
        drops.undo();
        int[] teas = {19, 21, 22, 23, 24, 25};
        areNow(drops, 1, 14, 7, 2, 1, 148);
        areLevels(drops, 19, 21, 24, 26, 28, 30);
        for (int d = 0; d < 6; d++) {
            Due.is("LABEL of " + d, drops.decanter(d, 3), (d + 1) % 6);
            Due.is("TEA of " + d, drops.decanter(d, 2), teas[d]);
        }
        drops.undo();
        areNow(drops, 0, 14, 7, 2, 1, 154);
        drops.undo();
        areNow(drops, 0, 10, 0, 2, 5, 154);
        drops.undo();
        areNow(drops, 0, 8, 0, 1, 7, 155);
    }

    private static void areNow(KingDrops drops, int... due) {
        for (int what = 0; what < due.length; what++) {
            Due.is("now(" + what + ")", drops.now(what), due[what]);
        }
    }

    private static void forgetsOldSteps() {
        KingDrops drops = Due.told("d40 1;");
        for (int i = 1; i <= 10; i++) {
            drops.month();
            Due.is("steps known", drops.count(3), i);
        }
        drops.month();
        drops.tops(0, 4);
        Due.is("steps known at most", drops.count(3), 10);
        for (int left = 9; left >= 0; left--) {
            Due.is("undo()", drops.undo(), left);
            Due.is("LEVEL behind undo()", drops.decanter(0, 0), 29 + 9 - left);
            Due.is("MONTHS behind undo()", drops.now(0), 11 - 9 + left);
        }
        Due.is("undo() of one that is lost", drops.undo(), KingDrops.STATE);
        Due.is("MONTHS that can't be undone", drops.now(0), 2);
    }

    private static void tellsNow() {
        KingDrops drops = Due.told("d9 2;d9 0;x0 1;a5 0 9;a6 1 8;a7 0 1 1 8;");
        drops.month();
        Due.is("CAN", drops.now(4), 1);
        Due.is("LEVELS", drops.now(5), 16);
        Due.is("MONTHS", drops.now(0), 1);
        drops.undo();
        Due.is("CAN, all", drops.now(4), 7);
        drops.pours(1);
        Due.is("CAN, one DONE", drops.now(4), 1);
        Due.is("DONE", drops.now(1), 2);
        Due.is("BLUNDERS", drops.now(3), 1);
        Due.is("LEVELS", drops.now(5), 10);
        Due.is("now(-1)", drops.now(-1), KingDrops.BAD);
        Due.is("now(6)", drops.now(6), KingDrops.BAD);
        for (int wild : Due.WILD) {
            Due.is("now(" + wild + ")", drops.now(wild), KingDrops.BAD);
        }
    }
}
