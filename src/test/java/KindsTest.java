/** Promises 21 to 23 and 25: MARKS by KINDS, IMAGES, THE TRACE. */
public final class KindsTest {
    public static void main(String[] args) {
        marks();
        refusesMarks();
        keepsImages();
        keepsSteps();
        keepsNothingElse();
        refusesImages();
        Due.ends();
    }

    private static void marks() {
        KingDrops drops = Due.told("d1 0;d9 0;d9 0;x0 1;a50 1 9 2 4 0 0;a3 0 1;a0 0 9 1 9 2 9;");
        drops.month();
        drops.month();
        Due.is("a BLUNDER", drops.pours(1), 0);
        int[][] due = {{50, 52, 37, 104, 38, 52}, {3, 4, 2, 8, 3, 5}, {0, 3, -27, 6, -26, 2}};
        long[] comes = {1, 11, 101, 1011, 10101, 100001};
        long trace = 0;
        for (int a = 0; a < 3; a++) {
            for (int kind = 0; kind < 6; kind++) {
                Due.is("mark(" + kind + ", " + a + ")", drops.mark(kind, a), due[a][kind]);
                trace += comes[kind];
                Due.is("trace() behind mark(" + kind + ", " + a + ")", drops.trace(), trace);
            }
        }
        for (int i = 0; i < 300; i++) {
            drops.mark(5, 0);
        }
        Due.is("trace() of many", drops.trace(), trace + 300L * 100001L);
        drops.undo();
        Due.is("trace() is not undone", drops.trace(), trace + 300L * 100001L);
        Due.is("HUNT behind undo()", drops.mark(4, 0), 37);
    }

    private static void refusesMarks() {
        KingDrops drops = Due.told("d1 0;a5;");
        int[][] bad = {{-1, 0}, {6, 0}, {0, -1}, {0, 1}, {5, 5}, {3, 1}};
        for (int[] args : bad) {
            Due.is("mark(" + args[0] + ", " + args[1] + ")", drops.mark(args[0], args[1]), KingDrops.NO);
        }
        for (int wild : Due.WILD) {
            Due.is("mark(" + wild + ", 0)", drops.mark(wild, 0), KingDrops.NO);
            Due.is("mark(0, " + wild + ")", drops.mark(0, wild), KingDrops.NO);
        }
        Due.is("trace() of refused ones", drops.trace(), 0);
    }

    private static void keepsImages() {
        KingDrops drops = Due.told("d20 2;d9 1;a5 0 2;a6 1 3;");
        drops.month();
        drops.tops(0, 4);
        drops.labels(0, 1);
        Due.is("a BLUNDER", drops.pours(1), 0);
        Due.is("keep(0)", drops.keep(0), 1);
        drops.month();
        drops.labels(0, 1);
        drops.pours(0);
        Due.is("keep(1)", drops.keep(1), 2);
        Due.is("steps", drops.count(3), 7);
        Due.is("back(0)", drops.back(0), 1);
        isAsImageTells(drops, new int[] {1, 2, 0, 1, 1, 27}, new int[] {19, 4, 1}, new int[] {8, 0, 0});
        Due.is("back(1)", drops.back(1), 2);
        isAsImageTells(drops, new int[] {2, 3, 0, 2, 0, 22}, new int[] {15, 4, 0}, new int[] {7, 0, 1});
        Due.is("back(1) again", drops.back(1), 2);
        drops.month();
        Due.is("keep(1) anew", drops.keep(1), 3);
        Due.is("back(0) is as it was", drops.back(0), 1);
        Due.is("back(1) is anew", drops.back(1), 3);
    }

    private static void isAsImageTells(KingDrops drops, int[] now, int[] first, int[] second) {
        for (int what = 0; what < now.length; what++) {
            Due.is("now(" + what + ") of an IMAGE", drops.now(what), now[what]);
        }
        int[] asked = {0, 2, 3};
        for (int i = 0; i < 3; i++) {
            Due.is("decanter(0, " + asked[i] + ") of an IMAGE", drops.decanter(0, asked[i]), first[i]);
            Due.is("decanter(1, " + asked[i] + ") of an IMAGE", drops.decanter(1, asked[i]), second[i]);
        }
    }

    private static void keepsSteps() {
        KingDrops drops = Due.told("d40 1;");
        for (int i = 0; i < 12; i++) {
            drops.month();
        }
        drops.keep(0);
        for (int i = 0; i < 10; i++) {
            drops.undo();
        }
        for (int i = 0; i < 11; i++) {
            drops.tops(0, 1);
        }
        Due.is("back(0)", drops.back(0), 12);
        Due.is("back() is no step", drops.count(3), 10);
        for (int left = 9; left >= 0; left--) {
            Due.is("undo() of an IMAGE's", drops.undo(), left);
            Due.is("LEVEL", drops.decanter(0, 0), 29 + 9 - left);
            Due.is("TEA", drops.decanter(0, 2), 0);
        }
        Due.is("undo() of none", drops.undo(), KingDrops.STATE);
        Due.is("back(0) again", drops.back(0), 12);
        Due.is("steps again", drops.count(3), 10);
        Due.is("undo() again", drops.undo(), 9);
        Due.is("LEVEL again", drops.decanter(0, 0), 29);
    }

    private static void keepsNothingElse() {
        KingDrops drops = Due.told("d40 1;a1;");
        drops.tells(0, 1);
        Due.types(drops, "abc");
        drops.mark(0, 0);
        drops.keep(0);
        drops.tells(0, 1);
        Due.types(drops, "de");
        drops.mark(1, 0);
        Due.is("back(0)", drops.back(0), 0);
        Due.is("TOLD stays", drops.count(2), 2);
        Due.is("THE TEXT stays", drops.count(4), 5);
        Due.is("THE TRACE stays", drops.trace(), 12);
        drops.clear();
        Due.is("a FAULT", Due.reads(drops, "d"), -11);
        Due.is("IMAGES stay on a FAULT", drops.back(0), 0);
        drops.clear();
        Due.is("an empty text", drops.sideboard(), 0);
        Due.is("IMAGES are gone", drops.back(0), KingDrops.STATE);
        Due.is("keep(0) anew", drops.keep(0), 0);
        Due.is("the other one is gone", drops.back(1), KingDrops.STATE);
        Due.is("back(0)", drops.back(0), 0);
    }

    private static void refusesImages() {
        KingDrops drops = Due.told("d40 1;");
        int[] bad = {-1, 2};
        for (int image : bad) {
            Due.is("keep(" + image + ")", drops.keep(image), KingDrops.BAD);
            Due.is("back(" + image + ")", drops.back(image), KingDrops.BAD);
        }
        for (int wild : Due.WILD) {
            Due.is("keep(" + wild + ")", drops.keep(wild), KingDrops.BAD);
            Due.is("back(" + wild + ")", drops.back(wild), KingDrops.BAD);
        }
        Due.is("back(0)", drops.back(0), KingDrops.STATE);
        drops.keep(1);
        Due.is("back(0), the other being kept", drops.back(0), KingDrops.STATE);
        Due.is("back(1)", drops.back(1), 0);
    }
}
