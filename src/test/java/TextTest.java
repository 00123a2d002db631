/** Promises 2 to 4: THE TEXT, and what it may tell. */
public final class TextTest {
    public static void main(String[] args) {
        typesAndClears();
        takesNoMoreThanItHolds();
        readsItems();
        faultsInDecanters();
        faultsInActs();
        faultsInExchanges();
        faultsOfBytes();
        endsTooEarly();
        changesNothingOnFault();
        readsAnew();
        Due.ends();
    }

    private static void typesAndClears() {
        KingDrops drops = new KingDrops();
        Due.is("clear() of none", drops.clear(), 0);
        Due.is("type(0)", drops.type(0), 1);
        Due.is("type(255)", drops.type(255), 2);
        Due.is("type(-1)", drops.type(-1), KingDrops.BAD);
        Due.is("type(256)", drops.type(256), KingDrops.BAD);
        for (int c : Due.WILD) {
            if (c != 100) {
                Due.is("type(" + c + ")", drops.type(c), KingDrops.BAD);
            }
        }
        Due.is("count(4)", drops.count(4), 2);
        Due.is("clear()", drops.clear(), 2);
        Due.is("count(4) behind clear()", drops.count(4), 0);
        Due.is("clear() again", drops.clear(), 0);
        Due.is("type(';') behind clear()", drops.type(';'), 1);
        Due.is("sideboard() of ;", drops.sideboard(), -10);
    }

    private static void takesNoMoreThanItHolds() {
        KingDrops drops = new KingDrops();
        for (int i = 1; i <= 150; i++) {
            Due.is("type " + i, drops.type(' '), i);
        }
        Due.is("type 151", drops.type(' '), KingDrops.FULL);
        Due.is("type BAD ahead of FULL", drops.type(256), KingDrops.BAD);
        Due.is("type BAD below ahead of FULL", drops.type(-1), KingDrops.BAD);
        Due.is("count(4) at most", drops.count(4), 150);
        Due.is("sideboard() of blanks", drops.sideboard(), 0);
        Due.is("count(4) behind sideboard()", drops.count(4), 0);
        StringBuilder full = new StringBuilder("d40 5");
        while (full.length() < 149) {
            full.append(' ');
        }
        Due.is("149 bytes without end", Due.reads(drops, full.toString()), -10 - 149);
        Due.is("type(;) as 150th", drops.type(';'), 150);
        Due.is("150 bytes", drops.sideboard(), 1);
        Due.is("level of it", drops.decanter(0, 0), 40);
    }

    private static void isRead(String text, int due) {
        Due.is("sideboard() of '" + text + "'", Due.reads(new KingDrops(), text), due);
    }

    private static void readsItems() {
        isRead("", 0);
        isRead("   ", 0);
        isRead("d0 0;", 1);
        isRead("d 0 0;", 1);
        isRead("  d  40   5  ;  ", 1);
        isRead("d1 1;d2 2;d3 3;d4 4;d5 5;d6 0;", 6);
        isRead("a0;", 1);
        isRead("a99;a1;a2;a3;a4;", 5);
        isRead("d1 1;a5 0 9 0 8 0 7 0 6 0 5 0 4;", 2);
        isRead("d1 1;a5 0 0;", 2);
        isRead("d0 0;d0 0;x0 1;x1 0;x 0 1 ;", 5);
        isRead("d0 0;a1 0 9;d0 0;x1 0;a2 1 9 0 1;", 5);
        KingDrops drops = Due.told("d12 3;a7 0 9 0 2;d 34 0;a 8 1 4 0 3 1 0;d5 5;x0 1;x1 2;d6 1;");
        int[][] due = {{12, 3, 0, 1, 4}, {34, 0, 0, 2, KingDrops.NONE}, {5, 5, 0, 0, 1}, {6, 1, 0, 3, 6}};
        for (int d = 0; d < 4; d++) {
            for (int what = 0; what < 5; what++) {
                Due.is("decanter(" + d + ", " + what + ")", drops.decanter(d, what), due[d][what]);
            }
        }
        int[][] needs = {{2, 0, 0, 0}, {3, 0, 0, 0}};
        for (int a = 0; a < 2; a++) {
            Due.is("worth of " + a, drops.act(a, 0), 7 + a);
            for (int q = 0; q < 4; q++) {
                Due.is("needs(" + a + ", " + q + ")", drops.needs(a, q), needs[a][q]);
            }
        }
    }

    private static void isFault(String text, int place) {
        isRead(text, -10 - place);
    }

    private static void faultsInDecanters() {
        isFault("d41 0;", 1);
        isFault("d40 6;", 4);
        isFault("d;", 1);
        isFault("d1;", 2);
        isFault("d1 1 1;", 5);
        isFault("d1 1 d", 5);
        isFault("d1d", 2);
        isFault("dd", 0);
        isFault("d d", 2);
        isFault("d1 1;d1 1;d1 1;d1 1;d1 1;d1 1;d1 1;", 30);
        isFault("d1 1;d1 1;d1 1;d1 1;d1 1;d1 1; d", 31);
    }

    private static void faultsInActs() {
        isFault("a;", 1);
        isFault("a100;", 1);
        isFault("a1 0 0;", 3);
        isFault("d0 0;a1 0;", 9);
        isFault("d0 0;a1 0 10;", 10);
        isFault("d0 0;a1 1 0;", 8);
        isFault("d0 0;a1 0 1 1 1;d0 0;", 12);
        isFault("d0 0;a1 0 1 d", 12);
        isFault("d0 0;a1 0 1 0 1 0 1 0 1 0 1 0 1 0 1;", 32);
        isFault("d0 0;a1 0 1 0 1 0 1 0 1 0 1 0 1 00", 32);
        isFault("a0;a0;a0;a0;a0;a0;", 15);
        isFault("aa;", 0);
        isFault("ad;", 0);
    }

    private static void faultsInExchanges() {
        isFault("x;", 1);
        isFault("x0 1;", 1);
        isFault("d0 0;x0 1;", 8);
        isFault("d0 0;x0 0;", 8);
        isFault("d0 0;x1 0;", 6);
        isFault("d0 0;d0 0;x0;", 12);
        isFault("d0 0;d0 0;x1 1;", 13);
        isFault("d0 0;d0 0;x0 2;", 13);
        isFault("d0 0;d0 0;x0 1 1;", 15);
        isFault("d0 0;d0 0;x0 1x", 14);
        isFault("x0 1;d0 0;d0 0;", 1);
    }

    private static void faultsOfBytes() {
        isFault(";", 0);
        isFault("  ;", 2);
        isFault("5;", 0);
        isFault("q;", 0);
        isFault("D0 0;", 0);
        isFault("xa;", 0);
        isFault("dz", 0);
        isFault("az", 0);
        isFault("za", 0);
        isFault("d1 1zz", 4);
        isFault("d1 1;`", 5);
        isFault("d1 1;{", 5);
        isFault("d1/1;", 2);
        isFault("d1:1;", 2);
        isFault("d0 0;;", 5);
        isFault("d0 0;b", 5);
        isFault("d00 0;", 1);
        isFault("d01 0;", 1);
        isFault("d1 05;", 3);
        isFault("d100 0;", 1);
        isFault("d1000000000000 0;", 1);
        isFault("d4294967297 0;", 1);
        isFault("d18446744073709551617 0;", 1);
        isFault("d1 0,", 4);
        isFault("d1-1", 2);
        isFault("d1\t1;", 2);
        isFault("d1\n1;", 2);
        isFault("d\0", 1);
        isFault("d1 1;\0", 5);
        isFault("d\u00ff", 1);
        for (int c = 0; c < 256; c++) {
            int due = c == ' ' ? 0 : c == 'd' || c == 'a' || c == 'x' ? -11 : -10;
            isRead(String.valueOf((char) c), due);
        }
    }

    private static void endsTooEarly() {
        isFault("d", 1);
        isFault("d  ", 3);
        isFault("d1", 2);
        isFault("d1 1", 4);
        isFault("d1 1  ", 6);
        isFault("a", 1);
        isFault("a99", 3);
        isFault("d1 1;a99 0", 10);
        isFault("d1 1;a99 0 1 ", 13);
        isFault("x", 1);
        isFault("d1 1;d1 1;x0", 12);
        isFault("d1 1;d1 1;x0 1", 14);
    }

    private static void changesNothingOnFault() {
        KingDrops drops = Due.told("d10 1;d20 2;a30 0 5;x0 1;");
        drops.month();
        drops.keep(0);
        drops.tells(0, 1);
        Due.is("faulty text", Due.reads(drops, "d1 1;a1;x"), -19);
        Due.is("count(4) of a faulty text", drops.count(4), 9);
        Due.is("decanters", drops.count(0), 2);
        Due.is("acts", drops.count(1), 1);
        Due.is("TOLD", drops.count(2), 1);
        Due.is("steps", drops.count(3), 1);
        Due.is("months", drops.now(0), 1);
        Due.is("level", drops.decanter(0, 0), 9);
        Due.is("air", drops.decanter(1, 1), 2);
        Due.is("label", drops.decanter(0, 3), 1);
        Due.is("worth", drops.act(0, 0), 30);
        Due.is("needs", drops.needs(0, 0), 5);
        Due.is("image", drops.back(0), 1);
        Due.is("sideboard() again", drops.sideboard(), -19);
        Due.types(drops, ";");
        Due.is("with one byte more", drops.sideboard(), -18 - 1);
        Due.is("clear()", drops.clear(), 10);
    }

    private static void readsAnew() {
        KingDrops drops = Due.told("d10 1;d20 2;a30 0 5;a1 0 1;x0 1;");
        drops.labels(0, 1);
        drops.pours(1);
        drops.tops(0, 3);
        drops.pours(0);
        drops.month();
        drops.tells(0, 1);
        drops.keep(0);
        drops.keep(1);
        drops.mark(5, 0);
        Due.is("EARNED ahead", drops.now(2), 1);
        Due.is("BLUNDERS ahead", drops.now(3), 1);
        Due.is("a new text", Due.reads(drops, "d7 0;a9;d8 3;"), 3);
        int[] counts = {2, 1, 0, 0, 0};
        for (int what = 0; what < 5; what++) {
            Due.is("count(" + what + ") anew", drops.count(what), counts[what]);
        }
        int[] now = {0, 0, 0, 0, 1, 15};
        for (int what = 0; what < 6; what++) {
            Due.is("now(" + what + ") anew", drops.now(what), now[what]);
        }
        int[][] due = {{7, 0, 0, 0}, {8, 3, 0, 1}};
        for (int d = 0; d < 2; d++) {
            for (int what = 0; what < 4; what++) {
                Due.is("decanter(" + d + ", " + what + ") anew", drops.decanter(d, what), due[d][what]);
            }
        }
        Due.is("needs(0, 0) anew", drops.needs(0, 0), 0);
        Due.is("act(0, 1) anew", drops.act(0, 1), 0);
        Due.is("undo() anew", drops.undo(), KingDrops.STATE);
        Due.is("back(0) anew", drops.back(0), KingDrops.STATE);
        Due.is("back(1) anew", drops.back(1), KingDrops.STATE);
        Due.is("trace() stays", drops.trace(), 100001);
        Due.is("a third text", Due.reads(drops, "d1 0;d1 0;a3;a4;"), 4);
        for (int a = 0; a < 2; a++) {
            Due.is("act(" + a + ", 1) of the third", drops.act(a, 1), 0);
            Due.is("LABEL of the third", drops.decanter(a, 3), a);
        }
        Due.is("a FAULT in a fourth", Due.reads(drops, "d1 0;d2 0;x0 1;a1 0 9 1 9;q"), -36);
        drops.clear();
        Due.is("a fifth text", Due.reads(drops, "d1 0;d1 0;a3;"), 3);
        Due.is("act(0, 1) of the fifth", drops.act(0, 1), 0);
        Due.is("needs(0, 1) of the fifth", drops.needs(0, 1), 0);
        Due.is("LABEL of the fifth", drops.decanter(0, 3), 0);
        Due.is("an empty text", drops.sideboard(), 0);
        Due.is("no decanters", drops.count(0), 0);
        Due.is("no acts", drops.count(1), 0);
    }
}
