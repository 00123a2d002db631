/** Promises 1, 5 to 7 and 24 at their edges: what there is, and what is asked of it. Each test names the sentence it holds. */
public final class EdgeBoardTest {
    private static final String SIX = "d1 1;d2 1;d3 1;d4 1;d5 1;d6 1;";

    public static void main(String[] args) {
        hasNothing();
        asksDecanters();
        asksOfDecanters();
        spans();
        spansBeyond();
        ownLabels();
        ownQualities();
        asksActs();
        asksOfActs();
        lastsWhereNotDone();
        lastsNone();
        lastsMost();
        lastsTheLeast();
        lastsBeyond();
        needsQualities();
        counts();
        lives();
        Due.ends();
    }

    private static void hasNothing() {
        Due.holds(1, "As told; no DECANTERS, no ACTS.");
        KingDrops drops = new KingDrops();
        Due.is("DECANTERS", drops.count(0), 0);
        Due.is("ACTS", drops.count(1), 0);
        Due.is("decanter(0, 0)", drops.decanter(0, 0), KingDrops.BAD);
        Due.is("act(0, 0)", drops.act(0, 0), KingDrops.BAD);
        Due.is("TRAY", drops.tray(0), 0);
        Due.is("SHARE", drops.share(0), 0);
        Due.is("RIGHT", drops.right(1), KingDrops.NONE);
        Due.is("FITS", drops.fits(-1), 1);
        Due.is("trace()", drops.trace(), 0);
        Twins.leaves("pours(0)", x -> { }, x -> x.pours(0), KingDrops.BAD);
        Twins.leaves("tops(0, 1)", x -> { }, x -> x.tops(0, 1), KingDrops.BAD);
        Twins.leaves("labels(0, 1)", x -> { }, x -> x.labels(0, 1), KingDrops.BAD);
        Twins.leaves("undo()", x -> { }, KingDrops::undo, KingDrops.STATE);
        Twins.leaves("back(0)", x -> { }, x -> x.back(0), KingDrops.STATE);
        Twins.leaves("tells(0, 1)", x -> { }, x -> x.tells(0, 1), KingDrops.BAD);
        Twins.leaves("mark(0, 0)", x -> { }, x -> x.mark(0, 0), KingDrops.NO);
        Twins.leaves("forget()", x -> { }, KingDrops::forget, 0);
        Twins.leaves("sideboard()", x -> { }, KingDrops::sideboard, 0);
        Due.is("month() goes by all the same", drops.month(), 1);
        Due.is("keep(0)", drops.keep(0), 1);
    }

    private static void asksDecanters() {
        Due.holds(5, "Of a DECANTER: 0 LEVEL, 1 AIR, 2 TEA, 3 its LABEL, 4 SPAN (NONE). BAD.");
        String text = "";
        for (int n = 1; n <= 6; n++) {
            text += "d" + n + " 1;";
            KingDrops drops = Due.told(text);
            Due.is("the first of " + n, drops.decanter(0, 0), 1);
            Due.is("the last of " + n, drops.decanter(n - 1, 0), n);
            Due.is("one behind the last of " + n, drops.decanter(n, 0), KingDrops.BAD);
            Due.is("one ahead of the first", drops.decanter(-1, 0), KingDrops.BAD);
        }
    }

    private static void asksOfDecanters() {
        Due.holds(5, "Of a DECANTER: 0 LEVEL, 1 AIR, 2 TEA, 3 its LABEL, 4 SPAN (NONE). BAD.");
        KingDrops drops = Due.told("d9 2;d9 0;x0 1;");
        drops.tops(0, 4);
        int[] due = {13, 2, 4, 1, 7};
        for (int what = 0; what < 5; what++) {
            Due.is("decanter(0, " + what + ")", drops.decanter(0, what), due[what]);
        }
        Due.is("decanter(0, -1)", drops.decanter(0, -1), KingDrops.BAD);
        Due.is("decanter(0, 5)", drops.decanter(0, 5), KingDrops.BAD);
    }

    /** SPAN is asked of the object, and then lived through. */
    private static void isSpan(String text, int due) {
        KingDrops drops = Due.told(text);
        Due.is("SPAN of " + text, drops.decanter(0, 4), due);
        for (int gone = 1; gone <= due; gone++) {
            Due.is("is not empty ahead of MONTH " + gone, drops.decanter(0, 0) > 0 ? 1 : 0, 1);
            drops.month();
            Due.is("SPAN behind MONTH " + gone, drops.decanter(0, 4), due - gone);
        }
        Due.is("is empty then", drops.decanter(0, 0) == 0 ? 1 : 0, due == KingDrops.NONE ? 0 : 1);
    }

    private static void spans() {
        Due.holds(5, "SPAN of a DECANTER: behind how many MONTHS");
        isSpan("d0 0;", 0);
        isSpan("d0 5;", 0);
        isSpan("d1 5;", 1);
        isSpan("d4 5;", 1);
        isSpan("d5 5;", 1);
        isSpan("d6 5;", 2);
        isSpan("d40 5;", 8);
        isSpan("d40 1;", 40);
        isSpan("d39 2;", 20);
        isSpan("d40 3;", 14);
        Due.holds(5, "it is empty; NONE (never)");
        isSpan("d1 0;", KingDrops.NONE);
        isSpan("d40 0;", KingDrops.NONE);
    }

    private static void spansBeyond() {
        Due.holds(5, "behind how many MONTHS (beyond the 999th, too) it is empty");
        KingDrops drops = Due.told("d0 1;d0 0;");
        passes(drops, 999);
        drops.tops(0, 40);
        drops.tops(1, 40);
        Due.is("SPAN in the 999th", drops.decanter(0, 4), 40);
        Due.is("SPAN without AIR", drops.decanter(1, 4), KingDrops.NONE);
    }

    /** These are more than the 512 calls of which the document tells: the class keeps to its sentences beyond them. */
    private static void passes(KingDrops drops, int months) {
        for (int month = drops.now(0); month < months; month++) {
            drops.month();
        }
    }

    private static void ownLabels() {
        Due.holds(5, "LABELS: each DECANTER has the LABEL of a QUALITY, no two alike (its own at first).");
        KingDrops drops = Due.told(SIX);
        for (int d = 0; d < 6; d++) {
            Due.is("LABEL of " + d, drops.decanter(d, 3), d);
        }
        for (int d = 0; d < 6; d++) {
            drops.labels(d, (d + 1) % 6);
            int hung = 0;
            for (int e = 0; e < 6; e++) {
                hung |= 1 << drops.decanter(e, 3);
            }
            Due.is("all LABELS hang", hung, 63);
        }
    }

    /** With all LABELS right, an ACT that NEEDS one QUALITY is POURED from the DECANTER of that number alone. */
    private static void ownQualities() {
        Due.holds(5, "each holds the QUALITY of its own number; LEVEL (0 .. 40 drops), AIR (0 .. 5 drops a month).");
        for (int q = 0; q < 6; q++) {
            KingDrops drops = Due.told("d9 1;d9 1;d9 1;d9 1;d9 1;d9 1;a5 " + q + " 9;");
            Due.is("WELL by QUALITY " + q, drops.pours(0), 1);
            for (int d = 0; d < 6; d++) {
                Due.is("LEVEL of " + d, drops.decanter(d, 0), d == q ? 0 : 9);
                Due.is("AIR of " + d, drops.decanter(d, 1), 1);
            }
        }
    }

    private static void asksActs() {
        Due.holds(6, "Of an ACT: 0 WORTH, 1 QUALITIES that it NEEDS (bits), 2 whether DONE, 3 LAST (NONE; DONE: NONE). BAD.");
        String text = "";
        for (int n = 1; n <= 5; n++) {
            text += "a" + n + ";";
            KingDrops drops = Due.told(text);
            Due.is("the first of " + n, drops.act(0, 0), 1);
            Due.is("the last of " + n, drops.act(n - 1, 0), n);
            Due.is("one behind the last of " + n, drops.act(n, 0), KingDrops.BAD);
            Due.is("one ahead of the first", drops.act(-1, 0), KingDrops.BAD);
        }
    }

    private static void asksOfActs() {
        Due.holds(6, "Of an ACT: 0 WORTH, 1 QUALITIES that it NEEDS (bits), 2 whether DONE, 3 LAST (NONE; DONE: NONE). BAD.");
        KingDrops drops = Due.told(SIX + "a7 0 1 5 3;a8;a9 0 1 1 1 2 1 3 1 4 1 5 1;");
        Due.is("no QUALITIES", drops.act(1, 1), 0);
        Due.is("the first and the last QUALITY", drops.act(0, 1), 33);
        Due.is("all QUALITIES", drops.act(2, 1), 63);
        Due.is("not DONE", drops.act(0, 2), 0);
        Due.is("LAST of one not DONE", drops.act(0, 3), 0);
        Due.is("act(0, -1)", drops.act(0, -1), KingDrops.BAD);
        Due.is("act(0, 4)", drops.act(0, 4), KingDrops.BAD);
        drops.pours(0);
        Due.is("DONE", drops.act(0, 2), 1);
        Due.is("LAST of one DONE", drops.act(0, 3), KingDrops.NONE);
        Due.is("another is not DONE", drops.act(1, 2), 0);
        drops.pours(1);
        Due.is("LAST of one DONE that NEEDS none", drops.act(1, 3), KingDrops.NONE);
    }

    /** LAST is asked of the object, and then lived through. */
    private static void isLast(String text, int due) {
        KingDrops drops = Due.told(text);
        Due.is("LAST of " + text, drops.act(0, 3), due);
        for (int gone = 1; gone <= due; gone++) {
            drops.month();
        }
        Due.is("it can be then", drops.now(4), due == KingDrops.NONE ? 0 : 1);
        drops.month();
        Due.is("it can't be behind one MONTH more", drops.now(4), due == 60 ? 1 : 0);
    }

    private static void lastsWhereNotDone() {
        Due.holds(6, "LAST of an ACT not DONE: for how many MONTHS more");
        KingDrops drops = Due.told("d20 2;a5 0 4;a6 0 6;");
        Due.is("LAST of the first", drops.act(0, 3), 8);
        Due.is("LAST of the second", drops.act(1, 3), 7);
        drops.pours(0);
        Due.is("DONE", drops.act(0, 3), KingDrops.NONE);
        Due.is("the other one, by what is left", drops.act(1, 3), 5);
        drops.pours(1);
        drops.undo();
        drops.undo();
        Due.is("undone", drops.act(0, 3), 8);
        drops.tops(0, 20);
        Due.is("TEA is of the LEVEL", drops.act(0, 3), 18);
    }

    private static void lastsNone() {
        Due.holds(6, "NONE (not even NOW)");
        isLast("d9 1;a5 0 9;", 0);
        isLast("d8 1;a5 0 9;", KingDrops.NONE);
        isLast("d8 0;a5 0 9;", KingDrops.NONE);
        isLast("d0 0;a5 0 1;", KingDrops.NONE);
        isLast("d9 0;d8 0;a5 0 9 1 9;", KingDrops.NONE);
        isLast("d1 0;d9 0;x0 1;a5 0 2 1 1;", 60);
        isLast("d1 0;d9 0;x0 1;a5 0 2 1 2;", KingDrops.NONE);
    }

    private static void lastsMost() {
        Due.holds(6, "for how many MONTHS more (0 .. 60; beyond the 999th, too) it still could be");
        isLast("d9 5;a5 0 5;", 0);
        isLast("d9 5;a5 0 4;", 1);
        isLast("d9 4;a5 0 5;", 1);
        isLast("d9 3;a5 0 3;", 2);
        isLast("d40 1;a5 0 1;", 39);
        isLast("d40 1;a5 0 9;", 31);
        isLast("d40 5;a5 0 5;", 7);
        Due.holds(6, "60: then, too");
        isLast("d9 0;a5 0 9;", 60);
        isLast("d1 0;a5 0 1;", 60);
        isLast("a5;", 60);
        isLast("d0 5;a5 0 0;", 60);
        isLast("d40 1;a5;", 60);
    }

    private static void lastsTheLeast() {
        Due.holds(6, "if nothing else is done (the most of them)");
        isLast("d20 1;d20 5;a5 0 5 1 5;", 3);
        isLast("d20 5;d20 1;a5 0 5 1 5;", 3);
        isLast("d20 5;d20 1;a5 1 5;", 15);
        isLast("d20 5;d20 1;x0 1;a5 0 5;", 15);
        isLast("d20 0;d20 0;d20 0;d20 0;d20 0;d6 1;a5 0 9 1 9 2 9 3 9 4 9 5 5;", 1);
    }

    private static void lastsBeyond() {
        Due.holds(6, "(0 .. 60; beyond the 999th, too)");
        KingDrops drops = Due.told("d0 1;d9 0;a5 1 9;a6 0 1;");
        passes(drops, 998);
        drops.tops(0, 40);
        Due.is("LAST in the 998th", drops.act(1, 3), 39);
        drops.month();
        Due.is("LAST in the 999th", drops.act(1, 3), 38);
        Due.is("60 in the 999th", drops.act(0, 3), 60);
    }

    private static void needsQualities() {
        Due.holds(7, "Drops of a QUALITY that an ACT NEEDS. BAD.");
        String text = "";
        for (int n = 1; n <= 6; n++) {
            text += "d0 0;";
            KingDrops drops = Due.told(text + "a5 0 " + n + " " + (n - 1) + " " + n + ";a6;");
            Due.is("of the first of " + n, drops.needs(0, 0), n);
            Due.is("of the last of " + n, drops.needs(0, n - 1), n);
            Due.is("of one behind the last of " + n, drops.needs(0, n), KingDrops.BAD);
            Due.is("of one ahead of the first", drops.needs(0, -1), KingDrops.BAD);
            Due.is("of the last ACT", drops.needs(1, 0), 0);
            Due.is("of one behind the last ACT", drops.needs(2, 0), KingDrops.BAD);
            Due.is("of one ahead of the first ACT", drops.needs(-1, 0), KingDrops.BAD);
        }
        Due.is("without DECANTERS", Due.told("a5;").needs(0, 0), KingDrops.BAD);
        Due.is("without ACTS", Due.told("d5 0;").needs(0, 0), KingDrops.BAD);
    }

    private static void counts() {
        Due.holds(24, "0 DECANTERS, 1 ACTS, 2 TOLD, 3 how many may be UNDONE, 4 bytes of THE TEXT. BAD.");
        KingDrops drops = new KingDrops();
        areCounts(drops, 0, 0, 0, 0, 0);
        Due.reads(drops, SIX + "a1;a2;a3;a4;a5;");
        areCounts(drops, 6, 5, 0, 0, 0);
        for (int i = 0; i < 11; i++) {
            drops.tells(0, 1);
            drops.month();
            drops.type('d');
        }
        areCounts(drops, 6, 5, 6, 10, 11);
        Due.types(drops, " ".repeat(139));
        drops.type(' ');
        areCounts(drops, 6, 5, 6, 10, 150);
    }

    private static void areCounts(KingDrops drops, int... due) {
        Due.is("count(-1)", drops.count(-1), KingDrops.BAD);
        for (int what = 0; what < 5; what++) {
            Due.is("count(" + what + ")", drops.count(what), due[what]);
        }
        Due.is("count(5)", drops.count(5), KingDrops.BAD);
    }

    private static void lives() {
        Due.holds(1, "An object is used for at most 512 calls after it has been made");
        KingDrops drops = Due.told("d40 1;a5 0 9;");
        for (int calls = 15; calls <= 512; calls++) {
            Due.is("call " + calls, drops.month(), calls - 14);
        }
        KingDrops steps = Due.told("d40 1;a5 0 9;");
        for (int calls = 15; calls < 512; calls += 2) {
            Due.is("call " + calls, steps.pours(0), 1);
            Due.is("call " + (calls + 1), steps.undo(), 0);
        }
    }
}
