import java.util.Random;

/** All promises: runs of calls, drawn by lot (the same each time), on an object and on the model beside it. */
public final class ModelTest {
    private static final int RUNS = 1500;
    private static final int CALLS = 512;

    private final Random lot;
    private final KingDrops drops = new KingDrops();
    private final Model model = new Model();
    private final int run;
    private int calls = 0;

    private ModelTest(int run) {
        this.run = run;
        this.lot = new Random(run);
    }

    public static void main(String[] args) {
        for (int run = 0; run < RUNS; run++) {
            new ModelTest(run).plays();
        }
        Due.ends();
    }

    private void plays() {
        readsText();
        while (calls < CALLS) {
            if (lot.nextInt(60) == 0) {
                readsText();
            } else if (calls + 60 < CALLS && lot.nextInt(60) == 0) {
                asksAll();
            } else {
                does();
            }
        }
    }

    private void are(String call, long got, long due) {
        calls++;
        Due.is("run " + run + ", call " + calls + ": " + call, got, due);
    }

    private void readsText() {
        String text = lot.nextInt(3) == 0 ? spoilt(text()) : text();
        if (calls + text.length() + 2 > CALLS) {
            calls = CALLS;
            return;
        }
        are("clear()", drops.clear(), model.clear());
        for (int i = 0; i < text.length(); i++) {
            char c = text.charAt(i);
            are("type(" + (int) c + ")", drops.type(c), model.type(c));
        }
        are("sideboard() of '" + text + "'", drops.sideboard(), model.sideboard());
    }

    /** Few bytes, so that calls are left for what comes behind. */
    private String text() {
        StringBuilder text = new StringBuilder();
        int decanters = 0;
        int acts = 0;
        int mostLevel = lot.nextBoolean() ? 40 : 15;
        for (int items = 4 + lot.nextInt(14); items > 0 && text.length() < 130; items--) {
            int item = lot.nextInt(5);
            if (item < 2 && decanters < 6) {
                text.append('d').append(lot.nextInt(mostLevel + 1)).append(' ').append(lot.nextInt(6));
                decanters++;
            } else if (item < 4 && acts < 5) {
                text.append('a').append(lot.nextBoolean() ? lot.nextInt(100) : 10);
                for (int twos = decanters == 0 ? 0 : lot.nextInt(4); twos > 0; twos--) {
                    text.append(' ').append(lot.nextInt(decanters)).append(' ').append(lot.nextInt(10));
                }
                acts++;
            } else if (decanters > 1) {
                int first = lot.nextInt(decanters);
                text.append('x').append(first).append(' ').append((first + 1 + lot.nextInt(decanters - 1)) % decanters);
            } else {
                continue;
            }
            text.append(lot.nextInt(6) == 0 ? " ; " : ";");
        }
        return text.toString();
    }

    private String spoilt(String text) {
        StringBuilder spoilt = new StringBuilder(text);
        for (int i = 1 + lot.nextInt(2); i > 0 && spoilt.length() > 0; i--) {
            int at = lot.nextInt(spoilt.length());
            String some = "0123456789 ;adx;z,D";
            char c = lot.nextInt(8) == 0 ? (char) lot.nextInt(256) : some.charAt(lot.nextInt(some.length()));
            switch (lot.nextInt(4)) {
                case 0 -> spoilt.deleteCharAt(at);
                case 1 -> spoilt.insert(at, c);
                case 2 -> spoilt.setCharAt(at, c);
                default -> spoilt.setLength(at);
            }
        }
        return spoilt.toString();
    }

    /** A number of 0 .. most, now and then one beyond, or wild. */
    private int number(int most) {
        int kind = lot.nextInt(40);
        if (kind == 0) {
            return Due.WILD[lot.nextInt(Due.WILD.length)];
        }
        return kind < 3 ? lot.nextInt(most + 3) - 1 : lot.nextInt(most + 1);
    }

    private int decanter() {
        return number(Math.max(model.count(0), 1) - 1);
    }

    private int act() {
        return number(Math.max(model.count(1), 1) - 1);
    }

    private void does() {
        int d = decanter();
        int e = decanter();
        int a = act();
        int n = number(lot.nextBoolean() ? 41 : 9);
        int two = number(1);
        switch (lot.nextInt(24)) {
            case 0, 1, 2 -> are("pours(" + a + ")", drops.pours(a), model.pours(a));
            case 3, 4 -> are("month()", drops.month(), model.month());
            case 5, 6 -> are("tops(" + d + ", " + n + ")", drops.tops(d, n), model.tops(d, n));
            case 7, 8 -> are("labels(" + d + ", " + e + ")", drops.labels(d, e), model.labels(d, e));
            case 9, 10 -> are("undo()", drops.undo(), model.undo());
            case 11 -> are("tells(" + a + ", " + two + ")", drops.tells(a, two), model.tells(a, two));
            case 12 -> forgetsSeldom();
            case 13 -> are("keep(" + two + ")", drops.keep(two), model.keep(two));
            case 14 -> are("back(" + two + ")", drops.back(two), model.back(two));
            case 15 -> typesOne(number(255));
            default -> asks(lot.nextInt(13), number(6), decanter(), act());
        }
    }

    private void forgetsSeldom() {
        if (lot.nextInt(3) == 0) {
            are("forget()", drops.forget(), model.forget());
        } else if (lot.nextInt(8) == 0) {
            are("sideboard()", drops.sideboard(), model.sideboard());
        }
    }

    private void typesOne(int c) {
        are("type(" + c + ")", drops.type(c), model.type(c));
    }

    private void asks(int question, int what, int d, int a) {
        int x = number(10);
        switch (question) {
            case 0 -> are("decanter(" + d + ", " + what + ")", drops.decanter(d, what), model.decanter(d, what));
            case 1 -> are("act(" + a + ", " + what + ")", drops.act(a, what), model.act(a, what));
            case 2 -> are("needs(" + a + ", " + d + ")", drops.needs(a, d), model.needs(a, d));
            case 3 -> are("now(" + what + ")", drops.now(what), model.now(what));
            case 4 -> are("tray(" + what + ")", drops.tray(what), model.tray(what));
            case 5 -> are("right(" + what + ")", drops.right(what), model.right(what));
            case 6 -> are("share(" + what + ")", drops.share(what), model.share(what));
            case 7 -> are("odds(" + a + ", " + x + ", " + what + ")", drops.odds(a, x, what), model.odds(a, x, what));
            case 8 -> are("fits(" + d + ")", drops.fits(d), model.fits(d));
            case 9 -> are("fits(-1)", drops.fits(-1), model.fits(-1));
            case 10 -> are("mark(" + what + ", " + a + ")", drops.mark(what, a), model.mark(what, a));
            case 11 -> are("count(" + what + ")", drops.count(what), model.count(what));
            default -> are("trace()", drops.trace(), model.trace());
        }
    }

    private void asksAll() {
        for (int what = 0; what < 2; what++) {
            asks(4, what, 0, 0);
            asks(5, what, 0, 0);
            asks(6, what, 0, 0);
        }
        for (int what = 0; what < 6; what++) {
            asks(3, what, 0, 0);
            asks(11, what, 0, 0);
        }
        for (int d = 0; d < model.count(0); d++) {
            asks(0, lot.nextInt(5), d, 0);
            asks(8, 0, d, 0);
        }
        for (int a = 0; a < model.count(1); a++) {
            asks(1, 3, 0, a);
            asks(7, lot.nextInt(2), 0, a);
            asks(10, lot.nextInt(6), 0, a);
        }
        asks(9, 0, 0, 0);
        asks(12, 0, 0, 0);
    }
}
