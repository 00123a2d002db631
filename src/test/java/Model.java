import java.util.ArrayList;
import java.util.Arrays;
import java.util.List;
import java.util.regex.Matcher;
import java.util.regex.Pattern;

/** The document again, by trying things out rather than by reckoning: slow, and on purpose unlike the class. */
final class Model {
    private static final int BAD = -1, STATE = -2, FULL = -3, NONE = -9, NO = -1000000;

    /** What an IMAGE keeps. */
    private static final class State {
        int[] level = {};
        int[] tea = {};
        int[] label = {};
        int months, done, earned, blunders;
        List<State> past = new ArrayList<>();

        State copy() {
            return copyAlone().withSteps(new ArrayList<>(past));
        }

        State withSteps(List<State> steps) {
            past = steps;
            return this;
        }

        State copyAlone() {
            State copy = new State();
            copy.level = level.clone();
            copy.tea = tea.clone();
            copy.label = label.clone();
            copy.months = months;
            copy.done = done;
            copy.earned = earned;
            copy.blunders = blunders;
            return copy;
        }

        int whereHangs(int quality) {
            for (int d = 0; d < label.length; d++) {
                if (label[d] == quality) {
                    return d;
                }
            }
            throw new IllegalStateException("no LABEL " + quality);
        }
    }

    private static final class Act {
        int worth;
        int[] drops = new int[6];
    }

    private static final class Fault extends Exception {
        private static final long serialVersionUID = 1;
        final int place;

        Fault(int place) {
            this.place = place;
        }
    }

    private final StringBuilder text = new StringBuilder();
    private int[] air = {};
    private List<Act> acts = new ArrayList<>();
    private State state = new State();
    private final State[] images = new State[2];
    private final List<int[]> told = new ArrayList<>();
    private long trace;

    private boolean noDecanter(int d) {
        return d < 0 || d >= air.length;
    }

    private boolean noAct(int a) {
        return a < 0 || a >= acts.size();
    }

    private static boolean out(int number, int least, int most) {
        return number < least || number > most;
    }

    // ---- the sideboard

    int type(int c) {
        if (out(c, 0, 255)) {
            return BAD;
        }
        if (text.length() == 150) {
            return FULL;
        }
        text.append((char) c);
        return text.length();
    }

    int clear() {
        int had = text.length();
        text.setLength(0);
        return had;
    }

    /** Tokens are eaten from the front; what is behind the last one is the text's end. */
    private static final class Tokens {
        final List<String> words = new ArrayList<>();
        final List<Integer> places = new ArrayList<>();
        final int end;
        int next = 0;

        Tokens(String text) {
            end = text.length();
            Matcher m = Pattern.compile("[a-z]+|[0-9]+|[^ ]", Pattern.DOTALL).matcher(text);
            while (m.find()) {
                words.add(m.group());
                places.add(m.start());
            }
        }

        int place() {
            return next < words.size() ? places.get(next) : end;
        }

        String peek() {
            return next < words.size() ? words.get(next) : "";
        }

        String takes(String pattern) throws Fault {
            if (!peek().matches(pattern)) {
                throw new Fault(place());
            }
            return words.get(next++);
        }

        int number(int most) throws Fault {
            int place = place();
            int number = Integer.parseInt(takes("[0-9]|[1-9][0-9]"));
            if (number > most) {
                throw new Fault(place);
            }
            return number;
        }
    }

    int sideboard() {
        List<int[]> decanters = new ArrayList<>();
        List<Act> newActs = new ArrayList<>();
        Tokens tokens = new Tokens(text.toString());
        int items = 0;
        try {
            while (tokens.next < tokens.words.size()) {
                String letters = (decanters.size() < 6 ? "d" : "") + (newActs.size() < 5 ? "a" : "") + "x";
                reads(tokens, tokens.takes("[" + letters + "]"), decanters, newActs);
                tokens.takes(";");
                items++;
            }
        } catch (Fault fault) {
            return -10 - fault.place;
        }
        state = new State();
        state.level = decanters.stream().mapToInt(d -> d[0]).toArray();
        state.label = decanters.stream().mapToInt(d -> d[2]).toArray();
        state.tea = new int[decanters.size()];
        air = decanters.stream().mapToInt(d -> d[1]).toArray();
        acts = newActs;
        Arrays.fill(images, null);
        told.clear();
        text.setLength(0);
        return items;
    }

    private static void reads(Tokens tokens, String letter, List<int[]> decanters, List<Act> newActs) throws Fault {
        if (letter.equals("d")) {
            decanters.add(new int[] {tokens.number(40), tokens.number(5), decanters.size()});
        } else if (letter.equals("a")) {
            Act act = new Act();
            act.worth = tokens.number(99);
            newActs.add(act);
            for (int i = 0; i < 6 && tokens.peek().matches("[0-9]+"); i++) {
                int q = tokens.number(decanters.size() - 1);
                act.drops[q] = tokens.number(9);
            }
        } else {
            int[] first = decanters.isEmpty() ? null : decanters.get(tokens.number(decanters.size() - 1));
            if (first == null) {
                throw new Fault(tokens.place());
            }
            int place = tokens.place();
            int[] second = decanters.get(tokens.number(decanters.size() - 1));
            if (first == second) {
                throw new Fault(place);
            }
            int label = first[2];
            first[2] = second[2];
            second[2] = label;
        }
    }

    int decanter(int d, int what) {
        if (noDecanter(d) || out(what, 0, 4)) {
            return BAD;
        }
        return what == 4 ? span(d) : new int[] {state.level[d], air[d], state.tea[d], state.label[d]}[what];
    }

    private int span(int d) {
        State later = state.copy();
        for (int months = 0; months <= 40; months++) {
            if (later.level[d] == 0) {
                return months;
            }
            monthGoesBy(later);
        }
        return NONE;
    }

    int act(int a, int what) {
        if (noAct(a) || out(what, 0, 3)) {
            return BAD;
        }
        int bits = 0;
        for (int q = 0; q < 6; q++) {
            bits += acts.get(a).drops[q] > 0 ? 1 << q : 0;
        }
        return what == 3 ? last(a) : new int[] {acts.get(a).worth, bits, state.done >> a & 1}[what];
    }

    private int last(int a) {
        State later = state.copy();
        int last = NONE;
        for (int months = 0; months <= 60; months++) {
            if ((later.done >> a & 1) == 0 && pour(later.copy(), a) >= 0) {
                last = months;
            }
            monthGoesBy(later);
        }
        return last;
    }

    int needs(int a, int q) {
        return noAct(a) || noDecanter(q) ? BAD : acts.get(a).drops[q];
    }

    // ---- what is done

    private void monthGoesBy(State s) {
        for (int d = 0; d < air.length; d++) {
            s.level[d] -= Math.min(air[d], s.level[d]);
            s.tea[d] = Math.min(s.tea[d], s.level[d]);
        }
        s.months++;
    }

    private int pour(State s, int a) {
        Act act = acts.get(a);
        boolean well = true;
        for (int q = 0; q < air.length; q++) {
            int d = s.whereHangs(q);
            if (act.drops[q] > 0) {
                well &= d == q && s.tea[d] == 0;
                s.level[d] -= act.drops[q];
                s.tea[d] = Math.min(s.tea[d], s.level[d]);
            }
            if (s.level[d] < 0) {
                return STATE;
            }
        }
        s.done |= 1 << a;
        s.earned += well ? act.worth : 0;
        s.blunders += well ? 0 : 1;
        return well ? 1 : 0;
    }

    private void remember() {
        state.past.add(state.copyAlone());
        if (state.past.size() > 10) {
            state.past.remove(0);
        }
    }

    int pours(int a) {
        if (noAct(a)) {
            return BAD;
        }
        if ((state.done >> a & 1) == 1 || pour(state.copy(), a) < 0) {
            return STATE;
        }
        remember();
        return pour(state, a);
    }

    int month() {
        if (state.months == 999) {
            return STATE;
        }
        remember();
        monthGoesBy(state);
        return state.months;
    }

    int tops(int d, int n) {
        if (noDecanter(d) || out(n, 1, 40)) {
            return BAD;
        }
        if (state.level[d] + n > 40) {
            return STATE;
        }
        remember();
        state.tea[d] += n;
        return state.level[d] += n;
    }

    private static void change(int[] label, int d, int e) {
        int old = label[d];
        label[d] = label[e];
        label[e] = old;
    }

    private static int own(int[] label) {
        int own = 0;
        for (int d = 0; d < label.length; d++) {
            own += label[d] == d ? 1 : 0;
        }
        return own;
    }

    int labels(int d, int e) {
        if (noDecanter(d) || noDecanter(e) || d == e) {
            return BAD;
        }
        remember();
        change(state.label, d, e);
        return own(state.label);
    }

    int undo() {
        if (state.past.isEmpty()) {
            return STATE;
        }
        List<State> past = state.past;
        state = past.remove(past.size() - 1).copyAlone().withSteps(past);
        return past.size();
    }

    int now(int what) {
        if (out(what, 0, 5)) {
            return BAD;
        }
        int can = 0;
        for (int a = 0; a < acts.size(); a++) {
            can |= last(a) == NONE ? 0 : 1 << a;
        }
        return new int[] {state.months, state.done, state.earned, state.blunders, can, Arrays.stream(state.level).sum()}[what];
    }

    // ---- what should be done

    /** The best by pouring for the set's ACTS one behind another; -1: can't be. */
    private int worthOfTray(int set) {
        State later = state.copy();
        int worth = 0;
        for (int a = 0; a < acts.size(); a++) {
            if ((set >> a & 1) == 1) {
                if ((later.done >> a & 1) == 1 || pour(later, a) < 0) {
                    return -1;
                }
                worth += acts.get(a).worth;
            }
        }
        return worth;
    }

    int tray(int what) {
        if (out(what, 0, 1)) {
            return BAD;
        }
        int best = 31;
        for (int set = 31; set >= 0; set--) {
            if (set < 1 << acts.size() && (worthOfTray(set) >= worthOfTray(best) || best >= 1 << acts.size())) {
                best = set;
            }
        }
        return what == 0 ? best : worthOfTray(best);
    }

    private static int fewest(int[] label, int most) {
        if (own(label) == label.length) {
            return 0;
        }
        for (int changes = 1; changes <= most; changes++) {
            for (int d = 0; d < label.length; d++) {
                for (int e = d + 1; e < label.length; e++) {
                    int[] then = label.clone();
                    change(then, d, e);
                    if (own(then) > own(label) && fewest(then, changes - 1) == changes - 1) {
                        return changes;
                    }
                }
            }
        }
        return most + 1;
    }

    int right(int what) {
        if (out(what, 0, 1)) {
            return BAD;
        }
        int changes = fewest(state.label, 5);
        if (what == 0) {
            return changes;
        }
        for (int two = 1; two < 60; two++) {
            int d = two / 10;
            int e = two % 10;
            if (d < e && e < air.length) {
                int[] then = state.label.clone();
                change(then, d, e);
                if (then[d] == d && state.label[d] != d || then[e] == e && state.label[e] != e) {
                    return two;
                }
            }
        }
        return NONE;
    }

    int share(int what) {
        if (out(what, 0, 1)) {
            return BAD;
        }
        int which = 0;
        int least = 1000;
        for (int set = 0; set < 1 << air.length; set++) {
            int first = 0;
            int second = 0;
            for (int d = 0; d < air.length; d++) {
                if ((set >> d & 1) == 1) {
                    first += state.level[d];
                } else {
                    second += state.level[d];
                }
            }
            if (Math.abs(first - second) < least && (air.length == 0 || set % 2 == 1)) {
                least = Math.abs(first - second);
                which = set;
            }
        }
        return what == 0 ? which : least;
    }

    int odds(int a, int x, int what) {
        if (noAct(a) || out(x, 0, 10) || out(what, 0, 1)) {
            return BAD;
        }
        long upper = 0;
        long lower = 1;
        for (int d = 0; d < air.length; d++) {
            lower *= 10;
        }
        for (int cracked = 0; cracked < 1 << air.length; cracked++) {
            State then = state.copy();
            long weight = 1;
            for (int d = 0; d < air.length; d++) {
                boolean isCracked = (cracked >> d & 1) == 1;
                weight *= isCracked ? x : 10 - x;
                then.level[d] = isCracked ? 0 : then.level[d];
            }
            upper += pour(then, a) >= 0 ? weight : 0;
        }
        long divisor = divisor(upper, lower);
        return (int) ((what == 0 ? upper : lower) / divisor);
    }

    private static long divisor(long m, long n) {
        return n == 0 ? m : divisor(n, m % n);
    }

    // ---- labels that were changed

    int tells(int a, int well) {
        if (noAct(a) || out(well, 0, 1)) {
            return BAD;
        }
        if (told.size() == 6) {
            return FULL;
        }
        told.add(new int[] {a, well});
        return told.size();
    }

    int forget() {
        int had = told.size();
        told.clear();
        return had;
    }

    int fits(int d) {
        if (d != -1 && noDecanter(d)) {
            return BAD;
        }
        List<int[]> ways = new ArrayList<>();
        hang(new int[air.length], 0, 0, ways);
        if (d == -1) {
            return ways.size();
        }
        return ways.stream().mapToInt(way -> way[d]).distinct().count() == 1 ? ways.get(0)[d] : NONE;
    }

    private void hang(int[] way, int d, int used, List<int[]> ways) {
        if (d == way.length) {
            if (told.stream().allMatch(t -> goesWell(way, t[0]) == (t[1] == 1))) {
                ways.add(way.clone());
            }
            return;
        }
        for (int label = 0; label < way.length; label++) {
            if ((used >> label & 1) == 0) {
                way[d] = label;
                hang(way, d + 1, used | 1 << label, ways);
            }
        }
    }

    private boolean goesWell(int[] way, int a) {
        for (int d = 0; d < way.length; d++) {
            if (acts.get(a).drops[way[d]] > 0 && way[d] != d) {
                return false;
            }
        }
        return true;
    }

    // ---- kinds, images

    private class AnAct {
        int mark(int a) {
            trace += 1;
            return acts.get(a).worth;
        }
    }

    private class Treaty extends AnAct {
        @Override
        int mark(int a) {
            trace += 10;
            return super.mark(a) + (int) Arrays.stream(acts.get(a).drops).filter(n -> n > 0).count();
        }
    }

    private class War extends AnAct {
        @Override
        int mark(int a) {
            trace += 100;
            return super.mark(a) - Arrays.stream(acts.get(a).drops).sum();
        }
    }

    private final class Pardon extends Treaty {
        @Override
        int mark(int a) {
            trace += 1000;
            return super.mark(a) * 2;
        }
    }

    private final class Hunt extends War {
        @Override
        int mark(int a) {
            trace += 10000;
            return super.mark(a) + state.blunders;
        }
    }

    private final class Breath extends AnAct {
        @Override
        int mark(int a) {
            trace += 100000;
            return super.mark(a) + state.months;
        }
    }

    int mark(int kind, int a) {
        if (noAct(a) || out(kind, 0, 5)) {
            return NO;
        }
        AnAct[] kinds = {new AnAct(), new Treaty(), new War(), new Pardon(), new Hunt(), new Breath()};
        return kinds[kind].mark(a);
    }

    int keep(int image) {
        if (out(image, 0, 1)) {
            return BAD;
        }
        images[image] = state.copy();
        return state.months;
    }

    int back(int image) {
        if (out(image, 0, 1)) {
            return BAD;
        }
        if (images[image] == null) {
            return STATE;
        }
        state = images[image].copy();
        return state.months;
    }

    int count(int what) {
        return out(what, 0, 4) ? BAD
            : new int[] {air.length, acts.size(), told.size(), state.past.size(), text.length()}[what];
    }

    long trace() {
        return trace;
    }
}
