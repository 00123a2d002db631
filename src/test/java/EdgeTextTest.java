/** Promises 2 to 4 at their edges: what THE TEXT holds, and what it may tell. Each test names the sentence it holds. */
public final class EdgeTextTest {
    private static final String SIX = "d1 1;d2 1;d3 1;d4 1;d5 1;d6 1;";

    public static void main(String[] args) {
        typesBytes();
        typesTillFull();
        readsByteByByte();
        clears();
        blanks();
        noBlanks();
        noItems();
        ends();
        sixDecanters();
        levels();
        airs();
        fiveActs();
        worths();
        drops();
        dropsNotTold();
        numbersInOrder();
        qualitiesAhead();
        sixTwos();
        toldAgain();
        unlikeDecanters();
        exchanges();
        letters();
        lettersThatBeginNone();
        tokensThatCantStand();
        digits();
        bytesThatBeginNone();
        numbersAbove();
        numbersWithNought();
        endsTooEarly();
        firstFault();
        readsWhole();
        staysOnFault();
        isReadAnew();
        Due.ends();
    }

    private static void isRead(String text, int items) {
        KingDrops drops = new KingDrops();
        Due.is("sideboard() of '" + text + "'", Due.reads(drops, text), items);
        Due.is("bytes behind '" + text + "'", drops.count(4), 0);
    }

    /** An object on which something of each sort has been done, in few calls. */
    private static void begun(KingDrops drops) {
        Due.reads(drops, "d9 1;d7 0;x0 1;a8 0 2;a5;");
        drops.keep(0);
        drops.pours(0);
        drops.pours(1);
        drops.month();
        drops.tells(0, 0);
        drops.keep(1);
        drops.mark(3, 0);
        drops.tops(0, 3);
        drops.labels(0, 1);
    }

    private static void isFault(String text, int place) {
        Due.is("sideboard() of '" + text + "'", Due.reads(new KingDrops(), text), -10 - place);
        Twins.leaves("sideboard() of '" + text + "' behind others", drops -> {
            begun(drops);
            Due.types(drops, text);
        }, KingDrops::sideboard, -10 - place);
    }

    private static void typesBytes() {
        Due.holds(2, "A byte (0 .. 255) comes to THE TEXT: how many it has. BAD; FULL.");
        KingDrops drops = new KingDrops();
        Due.is("type(0)", drops.type(0), 1);
        Due.is("type(255)", drops.type(255), 2);
        // The last ones would be the letter d, or a blank, if only their lowest eight bits were looked at.
        int[] bad = {-1, 256, 'd' + 256, 'd' - 256, ' ' + 65536, Integer.MIN_VALUE, Integer.MAX_VALUE, Integer.MIN_VALUE + 'd'};
        for (int c : bad) {
            Twins.leaves("type(" + c + ")", EdgeTextTest::begun, x -> x.type(c), KingDrops.BAD);
        }
    }

    private static void typesTillFull() {
        Due.holds(2, "They are a text (150 bytes at most)");
        KingDrops drops = new KingDrops();
        Due.types(drops, " ".repeat(148));
        Due.is("the 149th", drops.type(' '), 149);
        Due.is("the 150th", drops.type('d'), 150);
        Due.is("the 151st", drops.type('d'), KingDrops.FULL);
        Due.is("bytes", drops.count(4), 150);
        Due.is("the FAULT is its length", drops.sideboard(), -10 - 150);
        Due.is("full as before", drops.type(';'), KingDrops.FULL);
        Due.is("clear()", drops.clear(), 150);
        Due.is("type() then", drops.type(' '), 1);
        Twins.leaves("type() of one more", x -> Due.types(x, " ".repeat(145) + "d1 1;"), x -> x.type(';'), KingDrops.FULL);
        isRead(" ".repeat(145) + "d1 1;", 1);
        isRead("d1 1;" + " ".repeat(145), 1);
    }

    /** Bytes come one by one, with other calls and FAULTS between them: only what stands there counts. */
    private static void readsByteByByte() {
        Due.holds(4, "They are a text (150 bytes at most), read byte by byte");
        KingDrops drops = new KingDrops();
        String text = "d12 3;a45 0 6;";
        int[] faults = {1, 2, 3, 4, 5, 0, 7, 8, 9, 10, 11, 12, 13, 0};
        for (int i = 0; i < text.length(); i++) {
            Due.is("type(" + text.charAt(i) + ")", drops.type(text.charAt(i)), i + 1);
            drops.month();
            drops.undo();
            if (faults[i] > 0) {
                Due.is("sideboard() of " + (i + 1) + " bytes", drops.sideboard(), -10 - faults[i]);
            }
        }
        Due.is("sideboard() of all", drops.sideboard(), 2);
        Due.is("LEVEL of two bytes", drops.decanter(0, 0), 12);
        Due.is("AIR of one byte", drops.decanter(0, 1), 3);
        Due.is("WORTH of two bytes", drops.act(0, 0), 45);
        Due.is("drops of one byte", drops.needs(0, 0), 6);
    }

    private static void clears() {
        Due.holds(3, "THE TEXT is empty: how many bytes it had.");
        KingDrops drops = new KingDrops();
        Due.is("clear() of none", drops.clear(), 0);
        Due.types(drops, "d");
        Due.is("clear() of one", drops.clear(), 1);
        Due.is("clear() again", drops.clear(), 0);
        Due.types(drops, "d".repeat(150));
        Due.is("clear() of all", drops.clear(), 150);
        Due.is("bytes", drops.count(4), 0);
        Due.is("no byte of them is read", Due.reads(drops, "d1 1;"), 1);
        Twins.leaves("clear() of none", EdgeTextTest::begun, KingDrops::clear, 0);
    }

    private static void blanks() {
        Due.holds(4, "blanks (32) ahead of, between and behind TOKENS as may be");
        isRead("   d   9    1  ;   a  5  0   2  ;  ", 2);
        isRead("d9 1;", 1);
        int[] none = {31, 33, 9, 10, 13, 0, 160};
        for (int c : none) {
            isFault((char) c + "d9 1;", 0);
            isFault("d9" + (char) c + "1;", 2);
            isFault("d9 1;" + (char) c, 5);
        }
    }

    private static void noBlanks() {
        Due.holds(4, "(none needed where TOKENS end without)");
        isRead("d9 1;a5;a5 0 1;", 3);
        isFault("d91;", 1);
        isFault("d11;", 3);
        isFault("d9 1;a5 01;", 8);
        isFault("ad9 1;", 0);
    }

    private static void noItems() {
        Due.holds(4, "ITEMS (none, too)");
        isRead("", 0);
        isRead(" ", 0);
        isRead("a0;", 1);
        isFault(";", 0);
        KingDrops drops = Due.told("d9 1;a5;");
        Due.is("sideboard() of none", drops.sideboard(), 0);
        Due.is("DECANTERS", drops.count(0), 0);
        Due.is("ACTS", drops.count(1), 0);
    }

    private static void ends() {
        Due.holds(4, "each letters and what is told, ended by ;");
        isRead("d9 1;d9 1;", 2);
        isFault("d9 1 d9 1;", 5);
        isFault("d9 1;;", 5);
        isFault("a5 a5;", 3);
        isFault("d9 1;d9 1;x0 1 a5;", 15);
        isFault("d9 1", 4);
    }

    private static void sixDecanters() {
        Due.holds(4, "(6 of them at most)");
        isRead(SIX, 6);
        Due.is("DECANTERS", Due.told(SIX).count(0), 6);
        Due.is("the LEVEL of the last", Due.told(SIX).decanter(5, 0), 6);
        Due.holds(4, "a seventh decanter");
        isFault(SIX + "d1 1;", 30);
        isFault(SIX + " d", 31);
        isRead(SIX + "x0 5;a5 5 1;", 8);
    }

    private static void levels() {
        Due.holds(4, "LEVEL (0 .. 40 drops)");
        Due.is("least LEVEL", Due.told("d0 1;").decanter(0, 0), 0);
        Due.is("most LEVEL", Due.told("d40 1;").decanter(0, 0), 40);
        isFault("d41 1;", 1);
        isFault("d99 1;", 1);
        isFault("d-1 1;", 1);
    }

    private static void airs() {
        Due.holds(4, "AIR (0 .. 5 drops a month)");
        Due.is("least AIR", Due.told("d9 0;").decanter(0, 1), 0);
        Due.is("most AIR", Due.told("d9 5;").decanter(0, 1), 5);
        isFault("d9 6;", 3);
        isFault("d9 40;", 3);
        isFault("d9 -1;", 3);
    }

    private static void fiveActs() {
        Due.holds(4, "ACTS 0 .. (5 of them at most)");
        isRead("a1;a2;a3;a4;a5;", 5);
        Due.is("ACTS", Due.told("a1;a2;a3;a4;a5;").count(1), 5);
        Due.is("the WORTH of the last", Due.told("a1;a2;a3;a4;a5;").act(4, 0), 5);
        Due.holds(4, "a sixth act");
        isFault("a1;a2;a3;a4;a5;a6;", 15);
        isFault("a1;a2;a3;a4;a5; a", 16);
        isRead("a1;a2;a3;a4;a5;d1 1;", 6);
    }

    private static void worths() {
        Due.holds(4, "WORTH (0 .. 99)");
        Due.is("least WORTH", Due.told("a0;").act(0, 0), 0);
        Due.is("most WORTH", Due.told("a99;").act(0, 0), 99);
        isFault("a100;", 1);
        isFault("a-1;", 1);
    }

    private static void drops() {
        Due.holds(4, "WORTH (0 .. 99), NEEDS: drops (0 .. 9) of each QUALITY");
        KingDrops least = Due.told("d9 0;a5 0 0;");
        Due.is("least drops", least.needs(0, 0), 0);
        Due.is("it NEEDS none", least.act(0, 1), 0);
        KingDrops most = Due.told("d9 0;a5 0 9;");
        Due.is("most drops", most.needs(0, 0), 9);
        Due.is("it NEEDS it", most.act(0, 1), 1);
        isFault("d9 0;a5 0 10;", 10);
        isFault("d9 0;a5 0 99;", 10);
    }

    private static void dropsNotTold() {
        Due.holds(4, "(0, if not told)");
        KingDrops drops = Due.told(SIX + "a5 0 9 1 9 3 9 4 9 5 9;a6;");
        int[] needs = {9, 9, 0, 9, 9, 9};
        for (int q = 0; q < 6; q++) {
            Due.is("needs(0, " + q + ")", drops.needs(0, q), needs[q]);
            Due.is("needs(1, " + q + ")", drops.needs(1, q), 0);
        }
        Due.is("QUALITIES", drops.act(0, 1), 59);
        Due.is("no QUALITIES", drops.act(1, 1), 0);
    }

    private static void numbersInOrder() {
        Due.holds(4, ": d L A (a decanter) ; a W and twos of NUMBERS Q N (an act: N drops of the QUALITY Q");
        KingDrops drops = Due.told("d3 4;d5 2;a1 0 5;a0 1 3 0 2;");
        Due.is("L of the first", drops.decanter(0, 0), 3);
        Due.is("A of the first", drops.decanter(0, 1), 4);
        Due.is("L of the second", drops.decanter(1, 0), 5);
        Due.is("A of the second", drops.decanter(1, 1), 2);
        Due.is("W of the first", drops.act(0, 0), 1);
        Due.is("W of the second", drops.act(1, 0), 0);
        Due.is("N of Q = 0", drops.needs(0, 0), 5);
        Due.is("N of no Q", drops.needs(0, 1), 0);
        Due.is("N of Q = 1, told first", drops.needs(1, 1), 3);
        Due.is("N of Q = 0, told last", drops.needs(1, 0), 2);
    }

    private static void qualitiesAhead() {
        Due.holds(4, "N drops of the QUALITY Q of a DECANTER that is told ahead");
        isRead("d9 0;a5 0 1;", 2);
        isFault("d9 0;a5 1 1;", 8);
        isFault("a5 0 1;d9 0;", 3);
        isRead("d9 0;d9 0;a5 1 1;", 3);
        isFault("d9 0;a5 1 1;d9 0;", 8);
        isRead(SIX + "a5 5 1;", 7);
        isFault(SIX + "a5 6 1;", 33);
        isFault(SIX + "a5 99 1;", 33);
    }

    private static void sixTwos() {
        Due.holds(4, "0 to 6 such twos");
        isRead("a5;", 1);
        isRead(SIX + "a5 0 1 1 1 2 1 3 1 4 1 5 1;", 7);
        isFault(SIX + "a5 0;", 34);
        isFault(SIX + "a5 0 1 1;", 38);
        Due.holds(4, "a seventh two");
        isRead("d9 0;a5 0 1 0 2 0 3 0 4 0 5 0 6;", 2);
        isFault("d9 0;a5 0 1 0 2 0 3 0 4 0 5 0 6 0 7;", 32);
        isFault("d9 0;a5 0 1 0 2 0 3 0 4 0 5 0 6 9", 32);
    }

    private static void toldAgain() {
        Due.holds(4, "told again: the later");
        Due.is("the later one", Due.told("d9 0;a5 0 3 0 7;").needs(0, 0), 7);
        Due.is("the later, less one", Due.told("d9 0;a5 0 7 0 3;").needs(0, 0), 3);
        Due.is("the later, of six", Due.told("d9 0;a5 0 6 0 5 0 4 0 3 0 2 0 1;").needs(0, 0), 1);
        Due.is("the later, none", Due.told("d9 0;a5 0 7 0 0;").act(0, 1), 0);
        Due.is("the later, not of another ACT", Due.told("d9 0;a5 0 7;a5 0 3;").needs(0, 0), 7);
    }

    private static void unlikeDecanters() {
        Due.holds(4, "x A B (two unlike DECANTERS told ahead");
        isRead("d9 0;d9 0;x0 1;x1 0;", 4);
        isRead(SIX + "x5 0;", 7);
        isFault("d9 0;d9 0;x2 0;", 11);
        isFault("d9 0;d9 0;x0 2;", 13);
        isFault(SIX + "x6 0;", 31);
        isFault(SIX + "x0 6;", 33);
        isFault("d9 0;x0 1;d9 0;", 8);
        isFault("x0 1;", 1);
        Due.holds(4, "B that is A");
        isFault("d9 0;d9 0;x0 0;", 13);
        isFault("d9 0;d9 0;x1 1;", 13);
        isFault("d9 0;x0 0;", 8);
    }

    private static void exchanges() {
        Due.holds(4, "their LABELS are exchanged, as they are then");
        areLabels("d1 0;d1 0;d1 0;", 0, 1, 2);
        areLabels("d1 0;d1 0;x0 1;d1 0;", 1, 0, 2);
        areLabels("d1 0;d1 0;d1 0;x0 1;x1 2;", 1, 2, 0);
        areLabels("d1 0;d1 0;d1 0;x1 2;x0 1;", 2, 0, 1);
        areLabels("d1 0;d1 0;d1 0;x0 1;x1 0;", 0, 1, 2);
        areLabels(SIX + "x0 5;x5 1;", 5, 0, 2, 3, 4, 1);
    }

    private static void areLabels(String text, int... due) {
        KingDrops drops = Due.told(text);
        for (int d = 0; d < due.length; d++) {
            Due.is("LABEL of " + d + " by " + text, drops.decanter(d, 3), due[d]);
        }
    }

    private static void letters() {
        Due.holds(4, "TOKENS are letters a .. z side by side");
        isFault("`", 0);
        isFault("{", 0);
        isFault("A5;", 0);
        isFault("Z", 0);
        // All letters side by side are one TOKEN, so the FAULT is where they begin; a byte that is none ends it.
        isFault("dzzz 1;", 0);
        isFault("d`", 1);
        isFault("d{", 1);
        isFault("da{", 0);
        isFault("d z", 2);
    }

    private static void lettersThatBeginNone() {
        Due.holds(4, "letters that begin no ITEM");
        for (char c = 'a'; c <= 'z'; c++) {
            boolean begins = c == 'a' || c == 'd' || c == 'x';
            isFault(String.valueOf(c), begins ? 1 : 0);
            isFault("d1 1;" + c + "a", 5);
            isFault("d1 1; " + c + c, 6);
        }
        isFault("d9 a", 3);
        isFault("da", 0);
    }

    private static void tokensThatCantStand() {
        Due.holds(4, "the place of the first byte of the first TOKEN that can't stand there");
        isFault("d;", 1);
        isFault("d9;", 2);
        isFault("d9 1 1;", 5);
        isFault("d9 1x", 4);
        isFault("a;", 1);
        isFault("ax", 0);
        isFault("a5x", 2);
        isFault("x;", 1);
        isFault("d9 0;d9 0;x0;", 12);
        isFault("d9 0;d9 0;x0 1 0;", 15);
        isFault("5;", 0);
        isFault("   5;", 3);
        isFault("d9 1;  77;", 7);
    }

    private static void digits() {
        Due.holds(4, "NUMBERS and ;");
        isRead("d10 0;d9 0;", 2);
        isFault("d/ 0;", 1);
        isFault("d: 0;", 1);
        isFault("d1/ 0;", 2);
        isFault("d1: 0;", 2);
        isFault("d1 0:", 4);
        isFault("d1 0<", 4);
        isFault("d1+1;", 2);
        isFault("d1.5 1;", 2);
    }

    private static void bytesThatBeginNone() {
        Due.holds(4, "of a byte that begins none");
        for (int c = 0; c < 256; c++) {
            boolean isLetter = c >= 'a' && c <= 'z';
            boolean isDigit = c >= '0' && c <= '9';
            if (!isLetter && !isDigit && c != ' ' && c != ';') {
                String text = String.valueOf((char) c);
                isFault(text, 0);
                isFault("d" + text, 1);
                isFault("d1 1" + text, 4);
                isFault("d1 1; " + text + "d", 6);
            }
        }
    }

    private static void numbersAbove() {
        Due.holds(4, "a NUMBER above 99");
        isRead("a99;", 1);
        isFault("a100;", 1);
        isFault("a 999;", 2);
        isFault("a 1 100;", 4);
        isFault("d1 1;100", 5);
        // These would be 1, if they were reckoned in 8, 16, 32 or 64 bits.
        isFault("a257;", 1);
        isFault("a65537;", 1);
        isFault("a4294967297;", 1);
        isFault("a18446744073709551617;", 1);
        isFault("a" + "9".repeat(149), 1);
        Due.holds(4, "a NUMBER beyond what it may be, too);");
        isFault("d41 0;", 1);
        isFault("d40 6;", 4);
        isFault("d40 5;a1 0 10;", 11);
    }

    private static void numbersWithNought() {
        Due.holds(4, "a NUMBER above 99 or with a 0 ahead of others, that TOKEN's;");
        isRead("a0;", 1);
        isRead("a10;", 1);
        isFault("a00;", 1);
        isFault("a01;", 1);
        isFault("a09;", 1);
        isFault("a010;", 1);
        isFault("d1 00;", 3);
        isFault("d9 0;d9 0;x0 01;", 13);
        isFault("d9 0;a5 00 1;", 8);
        isFault("d9 0;a5 0 1 00", 12);
        isFault("00", 0);
    }

    private static void endsTooEarly() {
        Due.holds(4, "the text's length, if it ends too early");
        String[] items = {"d10 2", " ; d 4 0", ";a40", " 0 9 1 9", ";x 0 1", ";"};
        String text = String.join("", items);
        int ended = 0;
        for (int length = 0; length <= text.length(); length++) {
            String begun = text.substring(0, length);
            ended += begun.endsWith(";") ? 1 : 0;
            if (begun.trim().isEmpty() || begun.trim().endsWith(";")) {
                isRead(begun, ended);
            } else {
                isFault(begun, length);
                isFault(begun + "  ", length + 2);
            }
        }
    }

    private static void firstFault() {
        Due.holds(4, "FAULT: the place of the first byte of the first TOKEN");
        isFault("d41 9;d9 9;", 1);
        isFault("d9 9;d41 9;", 3);
        isFault("d9 1;q;d41 1", 5);
        isFault("d9 1;d41", 6);
    }

    private static void readsWhole() {
        Due.holds(4, "THE TEXT tells all, and is empty then: how many ITEMS. -10 less FAULT: nothing changes (THE TEXT, too, stays).");
        KingDrops drops = new KingDrops();
        String text = "d1 1;".repeat(6) + "a1;".repeat(5) + "x0 1;".repeat(21);
        Due.is("bytes", text.length(), 150);
        Due.is("sideboard()", Due.reads(drops, text), 32);
        Due.is("bytes then", drops.count(4), 0);
        Due.is("clear() then", drops.clear(), 0);
        Due.is("LABEL by 21 exchanges", drops.decanter(0, 3), 1);
        Due.is("a FAULT", Due.reads(drops, ";"), -10);
        Due.is("it stays", drops.clear(), 1);
        Due.is("and so does LABEL", drops.decanter(0, 3), 1);
        Due.is("sideboard() of the empty one", drops.sideboard(), 0);
    }

    private static void staysOnFault() {
        Due.holds(4, "-10 less FAULT: nothing changes (THE TEXT, too, stays).");
        KingDrops drops = new KingDrops();
        begun(drops);
        Due.is("a FAULT", Due.reads(drops, "a9;d40 5;x0 1"), -10 - 12);
        Due.is("bytes", drops.count(4), 13);
        Due.is("LEVEL", drops.decanter(0, 0), 11);
        Due.is("WORTH", drops.act(0, 0), 8);
        Due.is("the same FAULT again", drops.sideboard(), -10 - 12);
        Due.is("one byte more", drops.type(';'), 14);
        Due.is("no FAULT less", drops.sideboard(), -10 - 12);
        Due.is("clear()", drops.clear(), 14);
        Due.is("without FAULT", Due.reads(drops, "a9;d40 5;"), 2);
        Due.is("LEVEL then", drops.decanter(0, 0), 40);
        isFault("d40 5;d40 5;x0 1;a99 0 9;;", 25);
        isFault("d40 5;d40 5;x0 1;a99 0 9;a99 1 9;x0 1;q", 38);
    }

    private static void isReadAnew() {
        Due.holds(4, "(Read anew: as told (what is not told as at first), nothing DONE, TOLD or to be UNDONE, IMAGES are gone; "
            + "THE TRACE stays.)");
        KingDrops drops = new KingDrops();
        begun(drops);
        Due.is("DONE ahead", drops.now(1), 3);
        Due.is("EARNED ahead", drops.now(2), 5);
        Due.is("BLUNDERS ahead", drops.now(3), 1);
        Due.is("steps ahead", drops.count(3), 5);
        Due.is("sideboard()", Due.reads(drops, "d3 1;a5 0 1;"), 2);
        int[] now = {0, 0, 0, 0, 1, 3};
        int[] counts = {1, 1, 0, 0, 0};
        for (int what = 0; what < 6; what++) {
            Due.is("now(" + what + ")", drops.now(what), now[what]);
        }
        for (int what = 0; what < 5; what++) {
            Due.is("count(" + what + ")", drops.count(what), counts[what]);
        }
        Due.is("TEA", drops.decanter(0, 2), 0);
        Due.is("LABEL", drops.decanter(0, 3), 0);
        Due.is("undo()", drops.undo(), KingDrops.STATE);
        Due.is("back(0)", drops.back(0), KingDrops.STATE);
        Due.is("back(1)", drops.back(1), KingDrops.STATE);
        Due.is("forget()", drops.forget(), 0);
        Due.is("trace()", drops.trace(), 1011);
        for (int again = 0; again < 3; again++) {
            Due.is("sideboard() again", Due.reads(drops, "d3 1;d3 1;a5;"), 3);
            Due.is("drops that are not told", drops.needs(0, 0), 0);
            Due.is("QUALITIES that are not told", drops.act(0, 1), 0);
            Due.is("LABEL that is not told", drops.decanter(0, 3), 0);
        }
    }
}
