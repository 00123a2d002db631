import java.util.ArrayList;
import java.util.List;

/** Promises 21 to 23 and 25 at their edges: MARKS, IMAGES, THE TRACE. Each test names the sentence it holds. */
public final class EdgeKindsTest {
    public static void main(String[] args) {
        asksKinds();
        asksActs();
        marksActs();
        marksTreaties();
        marksWars();
        marksPardons();
        marksHunts();
        marksBreaths();
        asksUpOnce();
        marksBelowNought();
        marksChangeTraceAlone();
        keepsImages();
        keepsNow();
        keepsWhatMayBeUndone();
        keepsNothingElse();
        goesBack();
        goesBackToNone();
        imagesAreGone();
        tracesEachObject();
        tracesAll();
        tracesNothingRefused();
        Due.ends();
    }

    private static void begun(KingDrops drops) {
        Due.reads(drops, "d9 1;d7 0;x0 1;a8 0 2;a5;");
        drops.pours(0);
        drops.month();
        drops.tells(0, 0);
        drops.mark(3, 0);
    }

    private static void asksKinds() {
        Due.holds(21, "KINDS of ACTS are over one another: 0 ACT; 1 TREATY, 2 WAR, 5 BREATH (each under ACT); 3 PARDON (under TREATY); 4 HUNT (under WAR)");
        KingDrops drops = Due.told("a7;");
        Due.is("mark(0, 0)", drops.mark(0, 0), 7);
        Due.is("mark(5, 0)", drops.mark(5, 0), 7);
        Due.holds(21, "MARK. NO: BAD.");
        for (int kind : new int[] {-1, 6, 256, Integer.MIN_VALUE, Integer.MAX_VALUE}) {
            Twins.leaves("mark(" + kind + ", 0)", EdgeKindsTest::begun, x -> x.mark(kind, 0), KingDrops.NO);
        }
    }

    private static void asksActs() {
        Due.holds(21, "MARK. NO: BAD.");
        KingDrops drops = Due.told("a1;a2;a3;a4;a5;");
        Due.is("the first", drops.mark(0, 0), 1);
        Due.is("the last", drops.mark(0, 4), 5);
        for (int kind = 0; kind < 6; kind++) {
            int asked = kind;
            Twins.leaves("mark(" + kind + ", -1)", EdgeKindsTest::begun, x -> x.mark(asked, -1), KingDrops.NO);
            Twins.leaves("mark(" + kind + ", 2)", EdgeKindsTest::begun, x -> x.mark(asked, 2), KingDrops.NO);
            Twins.leaves("mark(" + kind + ", 0)", x -> { }, x -> x.mark(asked, 0), KingDrops.NO);
        }
    }

    private static void isMark(KingDrops drops, int kind, int a, int due, long comes) {
        long ahead = drops.trace();
        Due.is("mark(" + kind + ", " + a + ")", drops.mark(kind, a), due);
        Due.is("comes to THE TRACE", drops.trace() - ahead, comes);
    }

    private static void marksActs() {
        Due.holds(21, "ACT its WORTH (1)");
        KingDrops drops = Due.told("d9 0;a0 0 9;a99 0 9;");
        isMark(drops, 0, 0, 0, 1);
        isMark(drops, 0, 1, 99, 1);
        drops.pours(1);
        isMark(drops, 0, 1, 99, 1);
    }

    private static void marksTreaties() {
        Due.holds(21, "TREATY up, and how many QUALITIES it NEEDS (10)");
        KingDrops drops = Due.told("d9 0;d9 0;d9 0;d9 0;d9 0;d9 0;a7;a7 0 0;a7 5 1;a99 0 9 1 9 2 9 3 9 4 9 5 9;");
        isMark(drops, 1, 0, 7, 11);
        isMark(drops, 1, 1, 7, 11);
        isMark(drops, 1, 2, 8, 11);
        isMark(drops, 1, 3, 105, 11);
    }

    private static void marksWars() {
        Due.holds(21, "WAR up less all drops that it NEEDS (100)");
        KingDrops drops = Due.told("d9 0;d9 0;d9 0;d9 0;d9 0;d9 0;a7;a7 5 7;a7 0 8;a0 0 9 1 9 2 9 3 9 4 9 5 9;");
        isMark(drops, 2, 0, 7, 101);
        isMark(drops, 2, 1, 0, 101);
        isMark(drops, 2, 2, -1, 101);
        isMark(drops, 2, 3, -54, 101);
    }

    private static void marksPardons() {
        Due.holds(21, "PARDON up times 2 (1000)");
        KingDrops drops = Due.told("d9 0;d9 0;a0;a7 0 5;a99 0 9 1 9;");
        isMark(drops, 3, 0, 0, 1011);
        isMark(drops, 3, 1, 16, 1011);
        isMark(drops, 3, 2, 202, 1011);
    }

    private static void marksHunts() {
        Due.holds(21, "HUNT up, and BLUNDERS (10000)");
        KingDrops drops = Due.told("d9 0;d9 0;x0 1;a7 0 3;a0 1 9;");
        isMark(drops, 4, 0, 4, 10101);
        isMark(drops, 4, 1, -9, 10101);
        drops.pours(0);
        isMark(drops, 4, 0, 5, 10101);
        isMark(drops, 4, 1, -8, 10101);
        drops.undo();
        isMark(drops, 4, 0, 4, 10101);
    }

    private static void marksBreaths() {
        Due.holds(21, "BREATH up, and MONTHS (100000)");
        KingDrops drops = Due.told("d9 0;a7 0 3;");
        isMark(drops, 5, 0, 7, 100001);
        drops.month();
        isMark(drops, 5, 0, 8, 100001);
        drops.undo();
        isMark(drops, 5, 0, 7, 100001);
    }

    private static void asksUpOnce() {
        Due.holds(21, "MARK of an ACT as if of a KIND (numbers in brackets come to THE TRACE (0 at first; of all calls ever, together) "
            + "as often as mark() asks that body; \"up\" is what the KIND above does, asked once)");
        // Each figure of what comes to THE TRACE is how often one body was asked: ACT, TREATY, WAR, PARDON, HUNT, BREATH.
        KingDrops drops = Due.told("d9 0;d9 0;x0 1;a50 0 3 1 2;a20 0 1;");
        drops.pours(1);
        drops.month();
        isMark(drops, 0, 0, 50, 1);
        isMark(drops, 1, 0, 50 + 2, 11);
        isMark(drops, 2, 0, 50 - 5, 101);
        isMark(drops, 3, 0, (50 + 2) * 2, 1011);
        isMark(drops, 4, 0, 50 - 5 + 1, 10101);
        isMark(drops, 5, 0, 50 + 1, 100001);
        Due.is("together", drops.trace(), 111226);
    }

    private static void marksBelowNought() {
        Due.holds(21, "The constants: `NO = -1000000`: What none is, where a number may be below 0.");
        KingDrops drops = Due.told("d9 0;d9 0;d9 0;d9 0;d9 0;d9 0;a0 0 1;a0 0 2;a0 0 3;a0 0 9;a0 0 9 1 9 2 9 3 9 4 9 5 9;");
        isMark(drops, 2, 0, KingDrops.BAD, 101);
        isMark(drops, 2, 1, KingDrops.STATE, 101);
        isMark(drops, 2, 2, KingDrops.FULL, 101);
        isMark(drops, 2, 3, KingDrops.NONE, 101);
        isMark(drops, 4, 4, -54, 10101);
        isMark(drops, 2, 5, KingDrops.NO, 0);
        isMark(drops, 6, 4, -1000000, 0);
    }

    private static void marksChangeTraceAlone() {
        Due.holds(21, "as often as mark() asks that body");
        for (int kind = 0; kind < 6; kind++) {
            KingDrops drops = new KingDrops();
            begun(drops);
            List<Long> ahead = new ArrayList<>();
            List<Long> behind = new ArrayList<>();
            Twins.all(drops, ahead);
            drops.mark(kind, 0);
            drops.mark(kind, 1);
            Twins.all(drops, behind);
            // The last of all is THE TRACE.
            Due.are("all but THE TRACE", behind.subList(0, behind.size() - 1), ahead.subList(0, ahead.size() - 1));
        }
    }

    private static void keepsImages() {
        Due.holds(22, "An IMAGE is kept: MONTHS. BAD.");
        KingDrops drops = new KingDrops();
        Due.is("keep(0) at once", drops.keep(0), 0);
        drops.month();
        Due.is("keep(1) a MONTH later", drops.keep(1), 1);
        Due.is("back(0)", drops.back(0), 0);
        Due.is("back(1)", drops.back(1), 1);
        for (int image : new int[] {-1, 2, 256, Integer.MIN_VALUE, Integer.MAX_VALUE}) {
            Twins.leaves("keep(" + image + ")", EdgeKindsTest::begun, x -> x.keep(image), KingDrops.BAD);
        }
        Due.is("nothing to go back to", Due.told("d1 1;").back(0), KingDrops.STATE);
    }

    private static void keepsNow() {
        Due.holds(22, "IMAGES 0, 1 keep NOW (LEVELS, TEA, LABELS, MONTHS, what is DONE, EARNED, BLUNDERS, what may be UNDONE)");
        for (int image = 0; image < 2; image++) {
            int kept = image;
            Twins.Calls told = x -> {
                Due.reads(x, "d9 5;d7 1;d5 0;a5 0 2 2 1;a6 1 2;a7 0 1;a9 1 1;");
                x.pours(1);
                x.tops(0, 6);
                x.labels(0, 2);
                x.pours(2);
                x.keep(kept);
            };
            Twins.leave("month() and back()", told, x -> {
                x.month();
                x.back(kept);
            });
            Twins.leave("all sorts and back()", told, x -> {
                Due.is("WELL", x.pours(3), 1);
                x.tops(1, 9);
                Due.is("a BLUNDER", x.pours(0), 0);
                x.labels(1, 2);
                x.month();
                x.back(kept);
            });
            Twins.leave("undo() and back()", told, x -> {
                for (int n = 0; n < 4; n++) {
                    x.undo();
                }
                Due.is("EARNED is undone", x.now(2), 0);
                x.back(kept);
            });
            Twins.leave("back() at once", told, x -> x.back(kept));
        }
    }

    private static void keepsWhatMayBeUndone() {
        Due.holds(22, "what may be UNDONE); nothing else");
        for (int steps : new int[] {0, 1, 9, 10, 11}) {
            KingDrops drops = Due.told("d0 0;");
            for (int n = 0; n < steps; n++) {
                drops.tops(0, 1);
            }
            drops.keep(0);
            for (int n = 0; n < 12; n++) {
                drops.month();
            }
            drops.back(0);
            int known = Math.min(steps, 10);
            Due.is("known of " + steps, drops.count(3), known);
            for (int left = known - 1; left >= 0; left--) {
                Due.is("undo()", drops.undo(), left);
                Due.is("LEVEL", drops.decanter(0, 0), steps - known + left);
            }
            Due.is("none is left", drops.undo(), KingDrops.STATE);
        }
    }

    private static void keepsNothingElse() {
        Due.holds(23, "what may be UNDONE); nothing else");
        KingDrops drops = Due.told("d9 0;d9 0;a5 0 1;");
        drops.keep(0);
        drops.keep(1);
        drops.tells(0, 1);
        drops.type('d');
        drops.mark(0, 0);
        drops.month();
        drops.keep(1);
        Due.is("back(0)", drops.back(0), 0);
        Due.is("TOLD stays", drops.count(2), 1);
        Due.is("FITS stays", drops.fits(-1), 1);
        Due.is("THE TEXT stays", drops.count(4), 1);
        Due.is("THE TRACE stays", drops.trace(), 1);
        Due.is("the other IMAGE stays", drops.back(1), 1);
        Due.is("this one stays", drops.back(0), 0);
        Due.is("DECANTERS stay", drops.count(0), 2);
    }

    private static void goesBack() {
        Due.holds(23, "All of that becomes as an IMAGE has it: MONTHS. BAD; STATE: none was kept.");
        KingDrops drops = Due.told("d9 1;");
        drops.month();
        drops.keep(0);
        drops.month();
        Due.is("back(0)", drops.back(0), 1);
        drops.month();
        drops.month();
        drops.keep(0);
        Due.is("LEVEL of the later one", drops.decanter(0, 0), 6);
        drops.undo();
        Due.is("the later one", drops.back(0), 3);
        Due.is("back() can't be UNDONE", drops.undo(), 2);
        for (int image : new int[] {-1, 2, 256, Integer.MIN_VALUE, Integer.MAX_VALUE}) {
            Twins.leaves("back(" + image + ")", x -> {
                begun(x);
                x.keep(0);
                x.keep(1);
                x.month();
            }, x -> x.back(image), KingDrops.BAD);
        }
    }

    private static void goesBackToNone() {
        Due.holds(23, "STATE: none was kept.");
        for (int image = 0; image < 2; image++) {
            int kept = image;
            Twins.leaves("back(" + image + ")", EdgeKindsTest::begun, x -> x.back(kept), KingDrops.STATE);
            Twins.leaves("back(" + image + "), the other being kept", x -> {
                begun(x);
                x.keep(1 - kept);
                x.month();
            }, x -> x.back(kept), KingDrops.STATE);
        }
    }

    private static void imagesAreGone() {
        Due.holds(23, "IMAGES are gone");
        KingDrops drops = Due.told("d9 1;");
        drops.month();
        drops.keep(0);
        drops.keep(1);
        Due.is("a FAULT", Due.reads(drops, "d"), -11);
        Due.is("back(0) behind a FAULT", drops.back(0), 1);
        Due.is("back(1) behind a FAULT", drops.back(1), 1);
        drops.clear();
        Due.is("sideboard()", Due.reads(drops, "d9 1;"), 1);
        Due.is("back(0)", drops.back(0), KingDrops.STATE);
        Due.is("back(1)", drops.back(1), KingDrops.STATE);
        drops.keep(1);
        Due.is("back(0) still", drops.back(0), KingDrops.STATE);
        Due.is("back(1) anew", drops.back(1), 0);
    }

    private static void tracesEachObject() {
        Due.holds(25, "THE TRACE.");
        KingDrops drops = Due.told("a7;");
        KingDrops other = Due.told("a7;");
        drops.mark(5, 0);
        other.mark(0, 0);
        Due.is("trace()", drops.trace(), 100001);
        Due.is("trace() again", drops.trace(), 100001);
        Due.is("trace() of the other object", other.trace(), 1);
    }

    private static void tracesAll() {
        Due.holds(25, "THE TRACE (0 at first; of all calls ever, together)");
        KingDrops drops = new KingDrops();
        Due.is("at first", drops.trace(), 0);
        Due.reads(drops, "d9 0;a7 0 3;");
        Due.is("behind sideboard()", drops.trace(), 0);
        drops.keep(0);
        long due = 0;
        long[] comes = {1, 11, 101, 1011, 10101, 100001};
        for (int i = 0; i < 60; i++) {
            drops.mark(i % 6, 0);
            due += comes[i % 6];
            Due.is("behind " + (i + 1) + " marks", drops.trace(), due);
        }
        drops.month();
        drops.undo();
        drops.back(0);
        drops.forget();
        Due.is("behind undo(), back(), forget()", drops.trace(), due);
        Due.reads(drops, "d9 0;a7 0 3;");
        Due.is("read anew, THE TRACE stays", drops.trace(), due);
        Due.is("of another object", new KingDrops().trace(), 0);
    }

    private static void tracesNothingRefused() {
        Due.holds(25, "Refused, and nothing changes");
        KingDrops drops = Due.told("d9 0;a7 0 3;");
        drops.mark(-1, 0);
        drops.mark(6, 0);
        drops.mark(5, 1);
        drops.mark(3, -1);
        Due.is("trace()", drops.trace(), 0);
        drops.mark(5, 0);
        Due.is("trace() of what is not refused", drops.trace(), 100001);
    }
}
