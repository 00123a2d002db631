import java.util.ArrayList;
import java.util.List;

/**
 * Whether a call changes nothing: of two objects that have had the same calls, one has that call too, and from then on
 * both must answer alike, whichever way one goes on with them.
 */
final class Twins {
    interface Calls {
        void on(KingDrops drops);
    }

    interface Call {
        long on(KingDrops drops);
    }

    private interface View {
        void of(KingDrops drops, List<Long> seen);
    }

    private static final View[] VIEWS = {Twins::all, Twins::stepsBack, (drops, seen) -> image(drops, seen, 0),
        (drops, seen) -> image(drops, seen, 1), Twins::reads, Twins::readsWithOneMore, Twins::goesOn};

    private Twins() {
    }

    /** The call answers what is due and changes nothing. */
    static void leaves(String name, Calls ahead, Call call, long due) {
        for (int view = 0; view < VIEWS.length; view++) {
            KingDrops twin = after(ahead);
            KingDrops other = after(ahead);
            Due.is(name, call.on(twin), due);
            List<Long> got = new ArrayList<>();
            List<Long> alone = new ArrayList<>();
            VIEWS[view].of(twin, got);
            VIEWS[view].of(other, alone);
            Due.are(name + " changes nothing, seen by way " + view, got, alone);
        }
    }

    /** The calls change nothing, whatever they answer. */
    static void leave(String name, Calls ahead, Calls calls) {
        leaves(name, ahead, drops -> {
            calls.on(drops);
            return 0;
        }, 0);
    }

    private static KingDrops after(Calls ahead) {
        KingDrops drops = new KingDrops();
        ahead.on(drops);
        return drops;
    }

    /** All that is answered without a change. */
    static void all(KingDrops drops, List<Long> seen) {
        for (int d = 0; d < 6; d++) {
            for (int what = 0; what < 5; what++) {
                seen.add((long) drops.decanter(d, what));
            }
            seen.add((long) drops.fits(d));
        }
        for (int a = 0; a < 5; a++) {
            for (int what = 0; what < 4; what++) {
                seen.add((long) drops.act(a, what));
            }
            for (int q = 0; q < 6; q++) {
                seen.add((long) drops.needs(a, q));
            }
            seen.add((long) drops.odds(a, 3, 0));
            seen.add((long) drops.odds(a, 3, 1));
        }
        for (int what = 0; what < 6; what++) {
            seen.add((long) drops.now(what));
            seen.add((long) drops.count(what));
        }
        for (int what = 0; what < 2; what++) {
            seen.add((long) drops.tray(what));
            seen.add((long) drops.right(what));
            seen.add((long) drops.share(what));
        }
        seen.add((long) drops.fits(-1));
        seen.add(drops.trace());
    }

    /** NOW alone. */
    static void now(KingDrops drops, List<Long> seen) {
        for (int d = 0; d < 6; d++) {
            seen.add((long) drops.decanter(d, 0));
            seen.add((long) drops.decanter(d, 2));
            seen.add((long) drops.decanter(d, 3));
        }
        for (int what = 0; what < 4; what++) {
            seen.add((long) drops.now(what));
        }
        seen.add((long) drops.count(3));
    }

    static void stepsBack(KingDrops drops, List<Long> seen) {
        int left = 11;
        while (left > 0) {
            left--;
            int more = drops.undo();
            seen.add((long) more);
            now(drops, seen);
            left = more < 0 ? 0 : left;
        }
    }

    private static void image(KingDrops drops, List<Long> seen, int image) {
        seen.add((long) drops.back(image));
        now(drops, seen);
        stepsBack(drops, seen);
    }

    private static void reads(KingDrops drops, List<Long> seen) {
        seen.add((long) drops.sideboard());
        all(drops, seen);
    }

    private static void readsWithOneMore(KingDrops drops, List<Long> seen) {
        seen.add((long) drops.type(';'));
        reads(drops, seen);
    }

    private static void goesOn(KingDrops drops, List<Long> seen) {
        for (int a = 0; a < 5; a++) {
            seen.add((long) drops.tells(a, 1));
            seen.add((long) drops.pours(a));
            seen.add((long) drops.mark(a, a));
        }
        seen.add((long) drops.tops(0, 1));
        seen.add((long) drops.labels(0, 1));
        seen.add((long) drops.keep(0));
        seen.add((long) drops.month());
        all(drops, seen);
        seen.add((long) drops.forget());
        seen.add((long) drops.clear());
    }
}
