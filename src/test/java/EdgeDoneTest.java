/** Promises 8 to 13 at their edges: what is done, and undone. Each test names the sentence it holds. */
public final class EdgeDoneTest {
    private static final String SIX = "d9 1;d9 1;d9 1;d9 1;d9 1;d9 1;";

    public static void main(String[] args) {
        poursActs();
        poursOnce();
        poursWhereEnough();
        isDoneThen();
        poursByLabel();
        needsItsOwnLabel();
        needsNoTea();
        needsNothing();
        blunders();
        monthsTell();
        levelsEndAtNought();
        teaBecomesLevel();
        teaBecomesLevelByPouring();
        monthsEnd();
        topsByDrops();
        topsUpToForty();
        topsDecanters();
        changesLabels();
        changesTwoLabelsAlone();
        countsOwnLabels();
        undoesNone();
        undoesEach();
        undoesTen();
        undoesToTheWhole();
        asksNow();
        cans();
        Due.ends();
    }

    private static void areLevels(KingDrops drops, int... due) {
        for (int d = 0; d < due.length; d++) {
            Due.is("LEVEL of " + d, drops.decanter(d, 0), due[d]);
        }
    }

    private static void poursActs() {
        Due.holds(8, "POURED: 1 WELL, 0 a BLUNDER. BAD; STATE: it is DONE, a LEVEL is too low.");
        String text = "";
        for (int n = 1; n <= 5; n++) {
            text += "a" + n + ";";
            String told = text;
            int most = n;
            Due.is("the first of " + n, Due.told(told).pours(0), 1);
            Due.is("the last of " + n, Due.told(told).pours(n - 1), 1);
            Twins.leaves("one behind the last of " + n, x -> Due.reads(x, told), x -> x.pours(most), KingDrops.BAD);
            Twins.leaves("one ahead of the first", x -> Due.reads(x, told), x -> x.pours(-1), KingDrops.BAD);
        }
    }

    private static void poursOnce() {
        Due.holds(8, "POURED for an ACT that is not DONE");
        KingDrops drops = Due.told("d9 0;a5 0 1;a6 0 1;");
        Due.is("once", drops.pours(0), 1);
        Due.is("twice", drops.pours(0), KingDrops.STATE);
        Due.is("another", drops.pours(1), 1);
        areLevels(drops, 7);
        Due.is("DONE", drops.now(1), 3);
        drops.undo();
        drops.undo();
        Due.is("undone, once more", drops.pours(0), 1);
        Twins.leaves("pours(0) twice", x -> {
            Due.reads(x, "d9 0;a5 0 1;a6 0 1;");
            x.pours(0);
        }, x -> x.pours(0), KingDrops.STATE);
        Twins.leaves("pours(0) twice, a BLUNDER", x -> {
            Due.reads(x, "d9 0;d9 0;x0 1;a5 0 1;");
            x.pours(0);
        }, x -> x.pours(0), KingDrops.STATE);
    }

    private static void poursWhereEnough() {
        Due.holds(8, "so many drops from the DECANTER with that LABEL (LEVELS must be so much)");
        for (int n = 1; n <= 9; n++) {
            String act = "a5 0 " + n + ";";
            KingDrops drops = Due.told("d" + n + " 0;" + act);
            Due.is("as much as " + n, drops.pours(0), 1);
            areLevels(drops, 0);
            String less = "d" + (n - 1) + " 0;" + act;
            Twins.leaves("one less than " + n, x -> Due.reads(x, less), x -> x.pours(0), KingDrops.STATE);
        }
        for (int d = 0; d < 6; d++) {
            StringBuilder text = new StringBuilder();
            for (int e = 0; e < 6; e++) {
                text.append(e == d ? "d8 0;" : "d9 0;");
            }
            Twins.leaves("only " + d + " is too low", x -> Due.reads(x, text + "a5 0 9 1 9 2 9 3 9 4 9 5 9;"),
                x -> x.pours(0), KingDrops.STATE);
        }
        KingDrops all = Due.told(SIX + "a5 0 9 1 9 2 9 3 9 4 9 5 9;");
        Due.is("all are enough", all.pours(0), 1);
        areLevels(all, 0, 0, 0, 0, 0, 0);
    }

    private static void isDoneThen() {
        Due.holds(8, "(LEVELS must be so much); it is DONE.");
        for (int a = 0; a < 5; a++) {
            KingDrops drops = Due.told("d9 0;d9 0;d9 0;x1 2;a1 0 1;a2 1 1;a3;a4 0 1 1 1;a5 2 9;");
            drops.pours(a);
            Due.is("WELL or not, " + a + " is DONE", drops.now(1), 1 << a);
            for (int b = 0; b < 5; b++) {
                Due.is("whether " + b + " is DONE", drops.act(b, 2), b == a ? 1 : 0);
            }
            drops.undo();
            Due.is("none is DONE", drops.now(1), 0);
        }
    }

    private static void poursByLabel() {
        Due.holds(8, "of each QUALITY that it NEEDS so many drops from the DECANTER with that LABEL");
        KingDrops drops = Due.told("d3 0;d8 0;x0 1;a5 0 8 1 3;");
        Due.is("by their LABELS they are enough", drops.pours(0), 0);
        areLevels(drops, 0, 0);
        Twins.leaves("by their LABELS one is too low", x -> Due.reads(x, "d8 0;d3 0;x0 1;a5 0 4;"),
            x -> x.pours(0), KingDrops.STATE);
        drops = Due.told("d7 0;d7 0;d7 0;x0 1;x1 2;a5 0 3;");
        drops.pours(0);
        areLevels(drops, 7, 7, 4);
    }

    private static void needsItsOwnLabel() {
        Due.holds(8, "WELL: each of these DECANTERS has its own LABEL");
        Due.is("own", Due.told("d9 0;d9 0;d9 0;a5 0 1 1 1;").pours(0), 1);
        Due.is("the first has not", Due.told("d9 0;d9 0;d9 0;x0 2;a5 0 1 1 1;").pours(0), 0);
        Due.is("the last has not", Due.told("d9 0;d9 0;d9 0;x1 2;a5 0 1 1 1;").pours(0), 0);
        Due.is("neither has", Due.told("d9 0;d9 0;d9 0;x0 1;a5 0 1 1 1;").pours(0), 0);
        Due.is("one that it doesn't need has not", Due.told("d9 0;d9 0;d9 0;x1 2;a5 0 1 1 0;").pours(0), 1);
        Due.is("exchanged, and back", Due.told("d9 0;d9 0;d9 0;x0 1;x0 1;a5 0 1 1 1;").pours(0), 1);
    }

    private static void needsNoTea() {
        Due.holds(8, "and no TEA: its WORTH is EARNED");
        String text = "d9 0;d9 0;a40 0 1;a7 1 1;a3 0 0;";
        KingDrops drops = Due.told(text);
        Due.is("no TEA", drops.pours(0), 1);
        Due.is("EARNED", drops.now(2), 40);
        drops = Due.told(text);
        drops.tops(0, 1);
        Due.is("one drop of TEA", drops.pours(0), 0);
        Due.is("EARNED nothing", drops.now(2), 0);
        Due.is("TEA where it NEEDS none", drops.pours(1), 1);
        Due.is("TEA where it NEEDS 0 drops", drops.pours(2), 1);
        Due.is("EARNED", drops.now(2), 10);
        drops = Due.told(text);
        drops.tops(0, 1);
        drops.undo();
        Due.is("TEA that was UNDONE", drops.pours(0), 1);
        drops = Due.told("d1 0;a5 0 1;");
        Due.is("the last drop, not of TEA", drops.pours(0), 1);
        drops = Due.told("d0 0;a5 0 1;");
        drops.tops(0, 1);
        Due.is("the last drop, of TEA", drops.pours(0), 0);
    }

    private static void needsNothing() {
        Due.holds(8, "its WORTH is EARNED");
        KingDrops drops = Due.told("d0 0;d0 0;x0 1;a0;a99;a99;a99;a99;");
        drops.tops(0, 3);
        int[] earned = {0, 99, 198, 297, 396};
        for (int a = 0; a < 5; a++) {
            Due.is("it NEEDS none", drops.pours(a), 1);
            Due.is("EARNED", drops.now(2), earned[a]);
            Due.is("BLUNDERS", drops.now(3), 0);
        }
        areLevels(drops, 3, 0);
    }

    private static void blunders() {
        Due.holds(8, "else it is a BLUNDER (counted)");
        KingDrops drops = Due.told("d9 0;d9 0;x0 1;a99 0 1;a99 0 1;a99 0 1;a99 1 1;a99 1 1;");
        for (int a = 0; a < 5; a++) {
            Due.is("BLUNDERS ahead", drops.now(3), a);
            Due.is("one more", drops.pours(a), 0);
            Due.is("it is DONE", drops.act(a, 2), 1);
        }
        Due.is("BLUNDERS", drops.now(3), 5);
        Due.is("EARNED", drops.now(2), 0);
        areLevels(drops, 7, 6);
    }

    private static void monthsTell() {
        Due.holds(9, "A MONTH: which it is then. STATE: there were 999.");
        KingDrops drops = new KingDrops();
        Due.is("none ahead", drops.now(0), 0);
        Due.is("the first", drops.month(), 1);
        Due.is("the second", drops.month(), 2);
        drops.undo();
        Due.is("the second again", drops.month(), 2);
    }

    private static void levelsEndAtNought() {
        Due.holds(9, "each LEVEL is AIR less, 0 at least");
        KingDrops drops = Due.told("d6 5;d5 5;d4 5;d0 5;d0 0;d40 0;");
        drops.month();
        areLevels(drops, 1, 0, 0, 0, 0, 40);
        drops.month();
        areLevels(drops, 0, 0, 0, 0, 0, 40);
        Due.is("LEVELS", drops.now(5), 40);
    }

    private static void teaBecomesLevel() {
        Due.holds(9, "(TEA becomes LEVEL where it would be more");
        KingDrops drops = Due.told("d4 3;d3 3;d2 3;d0 3;d0 5;d9 0;");
        for (int d = 0; d < 6; d++) {
            drops.tops(d, 4);
        }
        drops.month();
        int[] levels = {5, 4, 3, 1, 0, 13};
        int[] teas = {4, 4, 3, 1, 0, 4};
        areLevels(drops, levels);
        for (int d = 0; d < 6; d++) {
            Due.is("TEA of " + d, drops.decanter(d, 2), teas[d]);
        }
    }

    private static void teaBecomesLevelByPouring() {
        Due.holds(8, "where it would be more, behind POURED, too.)");
        KingDrops drops = Due.told("d4 0;d3 0;d2 0;d0 0;d0 0;d9 0;a5 0 3 1 3 2 3 3 3 4 4;");
        for (int d = 0; d < 6; d++) {
            drops.tops(d, 4);
        }
        Due.is("pours(0)", drops.pours(0), 0);
        int[] levels = {5, 4, 3, 1, 0, 13};
        int[] teas = {4, 4, 3, 1, 0, 4};
        areLevels(drops, levels);
        for (int d = 0; d < 6; d++) {
            Due.is("TEA of " + d, drops.decanter(d, 2), teas[d]);
        }
    }

    /** These are more than the 512 calls of which the document tells: the class keeps to its sentences beyond them. */
    private static void passes(KingDrops drops, int months) {
        for (int month = drops.now(0); month < months; month++) {
            drops.month();
        }
    }

    private static void monthsEnd() {
        Due.holds(9, "A MONTH goes by (999 at most)");
        KingDrops drops = Due.told("d40 0;");
        passes(drops, 997);
        Due.is("the 998th", drops.month(), 998);
        Due.is("the 999th", drops.month(), 999);
        Due.is("no more", drops.month(), KingDrops.STATE);
        drops.undo();
        Due.is("the 999th again", drops.month(), 999);
        Twins.leaves("the 1000th", x -> {
            Due.reads(x, "d40 0;d9 1;a5 0 1;");
            passes(x, 998);
            x.tops(1, 7);
            x.month();
            x.keep(0);
            x.tops(1, 3);
        }, KingDrops::month, KingDrops.STATE);
        Due.is("read anew", Due.reads(drops, "d1 1;"), 1);
        Due.is("the first anew", drops.month(), 1);
    }

    private static void refusesTops(String text, int d, int n, int due) {
        Twins.leaves("tops(" + d + ", " + n + ") of " + text, x -> Due.reads(x, text), x -> x.tops(d, n), due);
    }

    private static void topsByDrops() {
        Due.holds(10, "TOPPED up: n drops (1 .. 40) of TEA come to a DECANTER");
        KingDrops least = Due.told("d0 0;");
        Due.is("tops(0, 1)", least.tops(0, 1), 1);
        Due.is("TEA", least.decanter(0, 2), 1);
        KingDrops most = Due.told("d0 0;");
        Due.is("tops(0, 40)", most.tops(0, 40), 40);
        Due.is("TEA", most.decanter(0, 2), 40);
        int[] bad = {0, 41, -1, -40, Integer.MIN_VALUE, Integer.MAX_VALUE, Integer.MAX_VALUE - 39, 1 << 8, 65537};
        for (int n : bad) {
            refusesTops("d0 0;", 0, n, KingDrops.BAD);
            refusesTops("d40 0;", 0, n, KingDrops.BAD);
        }
    }

    private static void topsUpToForty() {
        Due.holds(10, "of TEA come to a DECANTER (40 at most)");
        for (int level = 0; level < 40; level++) {
            KingDrops drops = Due.told("d" + level + " 0;");
            Due.is("from " + level + " to the brim", drops.tops(0, 40 - level), 40);
            Due.is("TEA", drops.decanter(0, 2), 40 - level);
        }
        refusesTops("d1 0;", 0, 40, KingDrops.STATE);
        refusesTops("d20 0;", 0, 21, KingDrops.STATE);
        refusesTops("d39 0;", 0, 2, KingDrops.STATE);
        refusesTops("d40 0;", 0, 1, KingDrops.STATE);
        refusesTops("d40 0;", 0, 40, KingDrops.STATE);
        KingDrops drops = Due.told("d38 1;");
        drops.tops(0, 2);
        Due.is("one drop too much", drops.tops(0, 1), KingDrops.STATE);
        drops.month();
        Due.is("one went off into the air", drops.tops(0, 1), 40);
    }

    private static void topsDecanters() {
        Due.holds(10, "TOPPED up: LEVEL then. BAD; STATE: it would be above 40.");
        KingDrops drops = Due.told("d1 0;d2 0;d3 0;");
        Due.is("the last", drops.tops(2, 1), 4);
        Due.is("the first", drops.tops(0, 1), 2);
        Due.is("the first again", drops.tops(0, 2), 4);
        Due.is("TEA of the first", drops.decanter(0, 2), 3);
        refusesTops("d1 0;d2 0;d3 0;", 3, 1, KingDrops.BAD);
        refusesTops("d1 0;d2 0;d3 0;", -1, 1, KingDrops.BAD);
        refusesTops(SIX, 6, 1, KingDrops.BAD);
        refusesTops("", 0, 1, KingDrops.BAD);
    }

    private static void changesLabels() {
        Due.holds(11, "CHANGED: how many DECANTERS have their own LABEL then. BAD (alike ones, too).");
        KingDrops drops = Due.told(SIX);
        Due.is("the first and the last", drops.labels(0, 5), 4);
        Due.is("LABEL of the first", drops.decanter(0, 3), 5);
        Due.is("LABEL of the last", drops.decanter(5, 3), 0);
        int[][] bad = {{-1, 0}, {0, -1}, {6, 0}, {0, 6}, {0, 0}, {5, 5}, {-1, -1}, {6, 6}};
        for (int[] args : bad) {
            Twins.leaves("labels(" + args[0] + ", " + args[1] + ")", x -> Due.reads(x, SIX + "x0 5;"),
                x -> x.labels(args[0], args[1]), KingDrops.BAD);
        }
        Twins.leaves("labels(0, 0) of one alone", x -> Due.reads(x, "d1 1;"), x -> x.labels(0, 0), KingDrops.BAD);
        Twins.leaves("labels(0, 1) of one alone", x -> Due.reads(x, "d1 1;"), x -> x.labels(0, 1), KingDrops.BAD);
    }

    private static void changesTwoLabelsAlone() {
        Due.holds(11, "CHANGED: two DECANTERS' LABELS.");
        for (int d = 0; d < 6; d++) {
            for (int e = 0; e < 6; e++) {
                if (d == e) {
                    continue;
                }
                KingDrops drops = Due.told("d9 0;d10 1;d11 2;d12 3;d13 4;d14 5;a5 0 9;");
                drops.tops(d, 3);
                drops.labels(d, e);
                for (int i = 0; i < 6; i++) {
                    Due.is("LABEL of " + i, drops.decanter(i, 3), i == d ? e : i == e ? d : i);
                    Due.is("LEVEL of " + i, drops.decanter(i, 0), 9 + i + (i == d ? 3 : 0));
                    Due.is("AIR of " + i, drops.decanter(i, 1), i);
                    Due.is("TEA of " + i, drops.decanter(i, 2), i == d ? 3 : 0);
                }
                Due.is("nothing is DONE", drops.now(1), 0);
                Due.is("no MONTH goes by", drops.now(0), 0);
            }
        }
    }

    private static void countsOwnLabels() {
        Due.holds(11, "how many DECANTERS have their own LABEL then");
        KingDrops drops = Due.told(SIX);
        Due.is("labels(0, 1)", drops.labels(0, 1), 4);
        Due.is("labels(2, 3)", drops.labels(2, 3), 2);
        Due.is("none", drops.labels(4, 5), 0);
        Due.is("none again", drops.labels(0, 2), 0);
        Due.is("labels(0, 2) back", drops.labels(2, 0), 0);
        Due.is("labels(1, 0) back", drops.labels(1, 0), 2);
        Due.is("labels(5, 4) back", drops.labels(5, 4), 4);
        Due.is("all", drops.labels(3, 2), 6);
    }

    private static void undoesNone() {
        Due.holds(12, "UNDONE: how many more may be. STATE: none.");
        KingDrops drops = new KingDrops();
        drops.month();
        Due.is("the only one", drops.undo(), 0);
        Due.is("none", drops.undo(), KingDrops.STATE);
        Twins.leaves("undo() of none", x -> {
            Due.reads(x, "d9 1;a5 0 1;");
            x.tells(0, 1);
            x.month();
            x.keep(1);
            x.undo();
        }, KingDrops::undo, KingDrops.STATE);
    }

    private static void undoesEach() {
        Due.holds(12, "UNDONE: the latest POURED, MONTH, TOPPED up, CHANGED");
        // Ahead of it one ACT went WELL and one did not, so that EARNED and BLUNDERS are more than 0.
        Twins.Calls told = x -> {
            Due.reads(x, "d9 5;d7 1;d5 0;d9 0;x0 1;a5 0 2 2 1;a6 1 9;a8 3 1;a9 3 2;");
            x.pours(2);
            x.tops(0, 6);
            x.pours(1);
            x.keep(0);
        };
        Twins.leave("pours(0) and undo()", told, x -> {
            Due.is("a BLUNDER", x.pours(0), 0);
            x.undo();
        });
        Twins.leave("pours(3) and undo()", told, x -> {
            Due.is("WELL", x.pours(3), 1);
            x.undo();
        });
        Twins.leave("month() and undo()", told, x -> {
            x.month();
            x.undo();
        });
        Twins.leave("tops(2, 35) and undo()", told, x -> {
            x.tops(2, 35);
            x.undo();
        });
        Twins.leave("labels(2, 0) and undo()", told, x -> {
            x.labels(2, 0);
            x.undo();
        });
        Twins.leave("all of them and undo() of all", told, x -> {
            x.labels(2, 0);
            x.pours(3);
            x.month();
            x.pours(0);
            x.tops(1, 20);
            for (int left = 7; left >= 3; left--) {
                Due.is("undo()", x.undo(), left);
            }
        });
    }

    private static void undoesTen() {
        Due.holds(12, "(10 are known, older ones are lost)");
        KingDrops ten = Due.told("d0 0;");
        for (int n = 1; n <= 10; n++) {
            ten.tops(0, 1);
            Due.is("known", ten.count(3), n);
        }
        for (int left = 9; left >= 0; left--) {
            Due.is("undo()", ten.undo(), left);
            Due.is("LEVEL", ten.decanter(0, 0), left);
        }
        Due.is("all ten are", ten.undo(), KingDrops.STATE);
        KingDrops eleven = Due.told("d0 0;");
        for (int n = 1; n <= 11; n++) {
            eleven.tops(0, 1);
        }
        Due.is("known of eleven", eleven.count(3), 10);
        for (int left = 9; left >= 0; left--) {
            Due.is("undo()", eleven.undo(), left);
            Due.is("LEVEL", eleven.decanter(0, 0), left + 1);
        }
        Due.is("the eleventh is lost", eleven.undo(), KingDrops.STATE);
        Due.is("what it did stays", eleven.decanter(0, 2), 1);
    }

    private static void undoesToTheWhole() {
        Due.holds(12, "all is as ahead of it");
        KingDrops drops = Due.told("d9 0;a5 0 9;");
        drops.tops(0, 3);
        drops.pours(0);
        Due.is("BLUNDERS", drops.now(3), 1);
        Due.is("TEA became LEVEL", drops.decanter(0, 2), 3);
        drops.undo();
        Due.is("BLUNDERS are undone", drops.now(3), 0);
        Due.is("it is not DONE", drops.now(1), 0);
        areLevels(drops, 12);
        drops.undo();
        Due.is("TEA is undone", drops.decanter(0, 2), 0);
        drops = Due.told("d2 5;");
        drops.month();
        areLevels(drops, 0);
        drops.undo();
        areLevels(drops, 2);
        Due.is("a refused call can't be undone", drops.pours(0), KingDrops.BAD);
        Due.is("none", drops.undo(), KingDrops.STATE);
    }

    private static void asksNow() {
        Due.holds(13, "0 MONTHS, 1 what is DONE (bits), 2 EARNED, 3 BLUNDERS, 4 CAN (bits), 5 LEVELS of all together. BAD.");
        KingDrops drops = new KingDrops();
        areNow(drops, 0, 0, 0, 0, 0, 0);
        Due.reads(drops, "d40 5;d40 5;d40 5;d40 5;d40 5;d40 5;a99;a99;a99;a99;a99;");
        areNow(drops, 0, 0, 0, 0, 31, 240);
        for (int a = 0; a < 5; a++) {
            drops.pours(a);
        }
        areNow(drops, 0, 31, 495, 0, 0, 240);
        for (int month = 0; month < 8; month++) {
            drops.month();
        }
        areNow(drops, 8, 31, 495, 0, 0, 0);
    }

    private static void areNow(KingDrops drops, int... due) {
        Due.is("now(-1)", drops.now(-1), KingDrops.BAD);
        for (int what = 0; what < 6; what++) {
            Due.is("now(" + what + ")", drops.now(what), due[what]);
        }
        Due.is("now(6)", drops.now(6), KingDrops.BAD);
    }

    private static void cans() {
        Due.holds(13, "CAN: ACTS not DONE (bits) that could be POURED for");
        KingDrops drops = Due.told("d9 1;d5 0;x0 1;a1 1 9;a2 1 8;a3 0 5;a4 0 6;a5 0 5 1 9;");
        Due.is("as much as they need, or one less", drops.now(4), 1 + 2 + 4 + 16);
        drops.month();
        Due.is("a MONTH later", drops.now(4), 2 + 4);
        drops.tops(1, 1);
        Due.is("one drop of TEA more", drops.now(4), 2 + 4 + 8);
        drops.pours(1);
        Due.is("one is DONE", drops.now(4), 4 + 8);
        drops.labels(0, 1);
        Due.is("by their own LABELS", drops.now(4), 0);
    }
}
