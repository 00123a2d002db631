/**
 * The late king's qualities in decanters, the acts of state poured from them, and what can be known of both.
 * The words in capitals are those of the document.
 */
public final class KingDrops {
    public static final int BAD = -1, STATE = -2, FULL = -3, NONE = -9;
    public static final int NO = -1000000;

    private static final int MOST_DECANTERS = 6;
    private static final int MOST_ACTS = 5;
    private static final int MOST_BYTES = 150;
    private static final int MOST_LEVEL = 40;
    private static final int MOST_AIR = 5;
    private static final int MOST_WORTH = 99;
    private static final int MOST_NEEDED = 9;
    private static final int MOST_TWOS = 6;
    private static final int MOST_MONTHS = 999;
    private static final int MOST_MONTHS_AHEAD = 60;
    private static final int MOST_STEPS_BACK = 10;
    private static final int MOST_TOLD = 6;
    private static final int CRACK_PARTS = 10;

    /** In how many ways so many LABELS can hang with none on its own DECANTER. */
    private static final int[] NONE_OWN = {1, 0, 1, 2, 9, 44, 265};

    private final Text text = new Text();
    private Sideboard board = new Sideboard();
    /** What a TEXT is read into, so that one with a FAULT leaves the board alone; the two change places. */
    private Sideboard draft = new Sideboard();

    private final Present present = new Present();
    private final Present firstImage = new Present();
    private final Present secondImage = new Present();
    private int imagesKept = 0;

    private final int[] toldNeeds = new int[MOST_TOLD];
    private final boolean[] toldWell = new boolean[MOST_TOLD];
    private int told = 0;

    private long traced = 0;

    public KingDrops() {
    }

    // ---- the sideboard

    public int type(int c) {
        if (c < 0 || c > 255) {
            return BAD;
        }
        return text.takes(c) ? text.length : FULL;
    }

    public int clear() {
        int had = text.length;
        text.length = 0;
        return had;
    }

    public int sideboard() {
        draft.empties();
        int answer = text.readsInto(draft);
        if (answer < 0) {
            return answer;
        }
        Sideboard read = draft;
        draft = board;
        board = read;
        text.length = 0;
        present.begins(board);
        imagesKept = 0;
        told = 0;
        return answer;
    }

    public int decanter(int d, int what) {
        if (!isDecanter(d)) {
            return BAD;
        }
        switch (what) {
            case 0:
                return present.levels[d];
            case 1:
                return board.airs[d];
            case 2:
                return present.teas[d];
            case 3:
                return present.labels[d];
            case 4:
                return span(d);
            default:
                return BAD;
        }
    }

    public int act(int a, int what) {
        if (!isAct(a)) {
            return BAD;
        }
        switch (what) {
            case 0:
                return board.worths[a];
            case 1:
                return board.qualitiesNeeded(a);
            case 2:
                return isDone(a) ? 1 : 0;
            case 3:
                return lastMonth(a);
            default:
                return BAD;
        }
    }

    public int needs(int a, int q) {
        if (!isAct(a) || !isDecanter(q)) {
            return BAD;
        }
        return board.dropsNeeded(a, q);
    }

    // ---- what is done

    public int pours(int a) {
        if (!isAct(a)) {
            return BAD;
        }
        if (isDone(a) || !isEnoughFor(a)) {
            return STATE;
        }
        present.remembers();
        // Asked ahead of pouring: TEA that is poured away has spoilt the ACT all the same.
        boolean well = wouldGoWell(a);
        for (int d = 0; d < board.decanters; d++) {
            present.loses(d, dropsFrom(d, a));
        }
        present.done |= 1 << a;
        if (well) {
            present.earned += board.worths[a];
        } else {
            present.blunders++;
        }
        return well ? 1 : 0;
    }

    public int month() {
        if (present.months >= MOST_MONTHS) {
            return STATE;
        }
        present.remembers();
        for (int d = 0; d < board.decanters; d++) {
            present.loses(d, board.airs[d]);
        }
        present.months++;
        return present.months;
    }

    public int tops(int d, int n) {
        if (!isDecanter(d) || n < 1 || n > MOST_LEVEL) {
            return BAD;
        }
        if (present.levels[d] + n > MOST_LEVEL) {
            return STATE;
        }
        present.remembers();
        present.levels[d] += n;
        present.teas[d] += n;
        return present.levels[d];
    }

    public int labels(int d, int e) {
        if (!isDecanter(d) || !isDecanter(e) || d == e) {
            return BAD;
        }
        present.remembers();
        int label = present.labels[d];
        present.labels[d] = present.labels[e];
        present.labels[e] = label;
        int own = 0;
        for (int i = 0; i < board.decanters; i++) {
            if (present.labels[i] == i) {
                own++;
            }
        }
        return own;
    }

    public int undo() {
        return present.stepsBack() ? present.stepsKnown : STATE;
    }

    public int now(int what) {
        switch (what) {
            case 0:
                return present.months;
            case 1:
                return present.done;
            case 2:
                return present.earned;
            case 3:
                return present.blunders;
            case 4:
                return actsThatCan();
            case 5:
                return levelsTogether();
            default:
                return BAD;
        }
    }

    // ---- what should be done

    public int tray(int what) {
        if (!isNoughtOrOne(what)) {
            return BAD;
        }
        int best = 0;
        for (int set = 1; set < 1 << board.acts; set++) {
            // Sets come with the least bits first, so only a greater WORTH may displace one.
            if ((set & present.done) == 0 && board.worthOf(set) > board.worthOf(best) && isEnoughForAll(set)) {
                best = set;
            }
        }
        return what == 0 ? best : board.worthOf(best);
    }

    public int right(int what) {
        if (!isNoughtOrOne(what)) {
            return BAD;
        }
        return what == 0 ? fewestChanges() : firstChange();
    }

    public int share(int what) {
        if (!isNoughtOrOne(what)) {
            return BAD;
        }
        int best = board.decanters == 0 ? 0 : 1;
        for (int set = 3; set < 1 << board.decanters; set += 2) {
            if (differenceOf(set) < differenceOf(best)) {
                best = set;
            }
        }
        return what == 0 ? best : differenceOf(best);
    }

    public int odds(int a, int x, int what) {
        if (!isAct(a) || x < 0 || x > CRACK_PARTS || !isNoughtOrOne(what)) {
            return BAD;
        }
        if (!isEnoughFor(a)) {
            return what == 0 ? 0 : 1;
        }
        // In least terms for one DECANTER is in least terms for all: a power brings no new divisor.
        int ofOne = inLeastTerms(what == 0 ? CRACK_PARTS - x : CRACK_PARTS, x);
        int product = 1;
        for (int i = Integer.bitCount(board.qualitiesNeeded(a)); i > 0; i--) {
            product *= ofOne;
        }
        return product;
    }

    // ---- labels that were changed

    public int tells(int a, int well) {
        if (!isAct(a) || !isNoughtOrOne(well)) {
            return BAD;
        }
        if (told >= MOST_TOLD) {
            return FULL;
        }
        toldNeeds[told] = board.qualitiesNeeded(a);
        toldWell[told] = well == 1;
        told++;
        return told;
    }

    public int forget() {
        int had = told;
        told = 0;
        return had;
    }

    public int fits(int d) {
        if (d == -1) {
            return waysThatFit();
        }
        return isDecanter(d) ? sureLabel(d) : BAD;
    }

    // ---- kinds, images

    public int mark(int kind, int a) {
        if (!isAct(a)) {
            return NO;
        }
        switch (kind) {
            case 0:
                return markOfAct(a);
            case 1:
                return markOfTreaty(a);
            case 2:
                return markOfWar(a);
            case 3:
                return markOfPardon(a);
            case 4:
                return markOfHunt(a);
            case 5:
                return markOfBreath(a);
            default:
                return NO;
        }
    }

    public int keep(int image) {
        if (!isNoughtOrOne(image)) {
            return BAD;
        }
        imageOf(image).becomes(present);
        imagesKept |= 1 << image;
        return present.months;
    }

    public int back(int image) {
        if (!isNoughtOrOne(image)) {
            return BAD;
        }
        if (!has(imagesKept, image)) {
            return STATE;
        }
        present.becomes(imageOf(image));
        return present.months;
    }

    public int count(int what) {
        switch (what) {
            case 0:
                return board.decanters;
            case 1:
                return board.acts;
            case 2:
                return told;
            case 3:
                return present.stepsKnown;
            case 4:
                return text.length;
            default:
                return BAD;
        }
    }

    public long trace() {
        return traced;
    }

    // ---- what there is

    private boolean isDecanter(int d) {
        return d >= 0 && d < board.decanters;
    }

    private boolean isAct(int a) {
        return a >= 0 && a < board.acts;
    }

    private boolean isDone(int a) {
        return has(present.done, a);
    }

    private static boolean has(int bits, int i) {
        return ((bits >> i) & 1) == 1;
    }

    private static boolean isNoughtOrOne(int what) {
        return what == 0 || what == 1;
    }

    private Present imageOf(int image) {
        return image == 0 ? firstImage : secondImage;
    }

    // ---- pouring

    /** An ACT knows LABELS alone: the drops come from whichever DECANTER has the LABEL. */
    private int dropsFrom(int d, int a) {
        return board.dropsNeeded(a, present.labels[d]);
    }

    private boolean isEnoughFor(int a) {
        return isEnoughForAll(1 << a);
    }

    private boolean isEnoughForAll(int acts) {
        for (int d = 0; d < board.decanters; d++) {
            int drops = 0;
            for (int a = 0; a < board.acts; a++) {
                if (has(acts, a)) {
                    drops += dropsFrom(d, a);
                }
            }
            if (drops > present.levels[d]) {
                return false;
            }
        }
        return true;
    }

    private boolean wouldGoWell(int a) {
        for (int d = 0; d < board.decanters; d++) {
            if (dropsFrom(d, a) > 0 && (present.labels[d] != d || present.teas[d] > 0)) {
                return false;
            }
        }
        return true;
    }

    private int actsThatCan() {
        int can = 0;
        for (int a = 0; a < board.acts; a++) {
            if (!isDone(a) && isEnoughFor(a)) {
                can |= 1 << a;
            }
        }
        return can;
    }

    // ---- months ahead

    private int span(int d) {
        int level = present.levels[d];
        int air = board.airs[d];
        if (level == 0) {
            return 0;
        }
        return air > 0 ? (level + air - 1) / air : NONE;
    }

    private int lastMonth(int a) {
        if (isDone(a) || !isEnoughFor(a)) {
            return NONE;
        }
        int last = MOST_MONTHS_AHEAD;
        for (int d = 0; d < board.decanters; d++) {
            int drops = dropsFrom(d, a);
            int air = board.airs[d];
            if (drops > 0 && air > 0) {
                last = Math.min(last, (present.levels[d] - drops) / air);
            }
        }
        return last;
    }

    // ---- setting labels right

    /** LABELS that go round in one ring of DECANTERS take one change less than the ring has DECANTERS. */
    private int fewestChanges() {
        int changes = board.decanters;
        int seen = 0;
        for (int d = 0; d < board.decanters; d++) {
            if (!has(seen, d)) {
                changes--;
                seen |= ringOf(d);
            }
        }
        return changes;
    }

    private int ringOf(int d) {
        int ring = 0;
        int e = d;
        for (int i = 0; i < board.decanters && isDecanter(e); i++) {
            ring |= 1 << e;
            e = present.labels[e];
        }
        return ring;
    }

    /** Each change that sets one right parts a ring, so it always begins one of the shortest ways. */
    private int firstChange() {
        for (int d = 0; d < board.decanters; d++) {
            for (int e = d + 1; e < board.decanters; e++) {
                if (present.labels[d] == e || present.labels[e] == d) {
                    return 10 * d + e;
                }
            }
        }
        return NONE;
    }

    // ---- sharing and odds

    private int levelsTogether() {
        int sum = 0;
        for (int d = 0; d < board.decanters; d++) {
            sum += present.levels[d];
        }
        return sum;
    }

    private int differenceOf(int ofFirst) {
        int difference = 0;
        for (int d = 0; d < board.decanters; d++) {
            difference += has(ofFirst, d) ? present.levels[d] : -present.levels[d];
        }
        return Math.abs(difference);
    }

    /** A number of the fraction by which one DECANTER is whole. */
    private static int inLeastTerms(int number, int x) {
        for (int divisor = CRACK_PARTS; divisor > 1; divisor--) {
            if (CRACK_PARTS % divisor == 0 && x % divisor == 0) {
                return number / divisor;
            }
        }
        return number;
    }

    // ---- what was told

    /**
     * Whether an ACT goes WELL hangs only on which DECANTERS have their own LABEL, so the ways are gone through
     * by that set: at most 64 sets stand for 720 ways.
     */
    private boolean agreesWithTold(int own) {
        for (int i = 0; i < told; i++) {
            boolean well = (toldNeeds[i] & ~own) == 0;
            if (well != toldWell[i]) {
                return false;
            }
        }
        return true;
    }

    private int waysWithOwn(int own) {
        int others = board.decanters - Integer.bitCount(own);
        if (others < 0 || others >= NONE_OWN.length || !agreesWithTold(own)) {
            return 0;
        }
        return NONE_OWN[others];
    }

    private int waysThatFit() {
        int ways = 0;
        for (int own = 0; own < 1 << board.decanters; own++) {
            ways += waysWithOwn(own);
        }
        return ways;
    }

    private int sureLabel(int d) {
        int all = (1 << board.decanters) - 1;
        int possible = 0;
        for (int own = 0; own <= all; own++) {
            if (waysWithOwn(own) > 0) {
                // Where it has not its own, each LABEL of the others that have not theirs hangs on it in some way.
                possible |= has(own, d) ? 1 << d : all & ~own & ~(1 << d);
            }
        }
        for (int label = 0; label < board.decanters; label++) {
            if (possible == 1 << label) {
                return label;
            }
        }
        return NONE;
    }

    // ---- the bodies of the kinds; each asks the one above it once

    private int markOfAct(int a) {
        traced += 1;
        return board.worths[a];
    }

    private int markOfTreaty(int a) {
        traced += 10;
        return markOfAct(a) + Integer.bitCount(board.qualitiesNeeded(a));
    }

    private int markOfWar(int a) {
        traced += 100;
        int drops = 0;
        for (int q = 0; q < board.decanters; q++) {
            drops += board.dropsNeeded(a, q);
        }
        return markOfAct(a) - drops;
    }

    private int markOfPardon(int a) {
        traced += 1000;
        return markOfTreaty(a) * 2;
    }

    private int markOfHunt(int a) {
        traced += 10000;
        return markOfWar(a) + present.blunders;
    }

    private int markOfBreath(int a) {
        traced += 100000;
        return markOfAct(a) + present.months;
    }

    /** What a TEXT tells. */
    private static final class Sideboard {
        private int decanters = 0;
        private final int[] levels = new int[MOST_DECANTERS];
        private final int[] airs = new int[MOST_DECANTERS];
        private final int[] labels = new int[MOST_DECANTERS];
        private int acts = 0;
        private final int[] worths = new int[MOST_ACTS];
        private final int[][] drops = new int[MOST_ACTS][MOST_DECANTERS];

        private void empties() {
            decanters = 0;
            acts = 0;
        }

        private void addsDecanter(int level, int air) {
            if (decanters < MOST_DECANTERS) {
                levels[decanters] = level;
                airs[decanters] = air;
                labels[decanters] = decanters;
                decanters++;
            }
        }

        private void addsAct(int worth) {
            if (acts < MOST_ACTS) {
                worths[acts] = worth;
                for (int q = 0; q < MOST_DECANTERS; q++) {
                    drops[acts][q] = 0;
                }
                acts++;
            }
        }

        private void latestActNeeds(int q, int n) {
            if (acts > 0 && q >= 0 && q < decanters) {
                drops[acts - 1][q] = n;
            }
        }

        private void exchangesLabels(int d, int e) {
            if (d >= 0 && d < decanters && e >= 0 && e < decanters) {
                int label = labels[d];
                labels[d] = labels[e];
                labels[e] = label;
            }
        }

        private int dropsNeeded(int a, int q) {
            return a >= 0 && a < acts && q >= 0 && q < decanters ? drops[a][q] : 0;
        }

        private int qualitiesNeeded(int a) {
            int bits = 0;
            for (int q = 0; q < decanters; q++) {
                if (dropsNeeded(a, q) > 0) {
                    bits |= 1 << q;
                }
            }
            return bits;
        }

        private int worthOf(int set) {
            int worth = 0;
            for (int a = 0; a < acts; a++) {
                if (has(set, a)) {
                    worth += worths[a];
                }
            }
            return worth;
        }
    }

    /** All that an IMAGE keeps, what may be UNDONE with it. */
    private static final class Present {
        /** A step back is kept as one row of numbers: LEVELS, TEA, LABELS, then the four single numbers. */
        private static final int TEAS_AT = MOST_DECANTERS;
        private static final int LABELS_AT = 2 * MOST_DECANTERS;
        private static final int REST_AT = 3 * MOST_DECANTERS;
        private static final int STEP = REST_AT + 4;

        private final int[] levels = new int[MOST_DECANTERS];
        private final int[] teas = new int[MOST_DECANTERS];
        private final int[] labels = new int[MOST_DECANTERS];
        private int months = 0;
        private int done = 0;
        private int earned = 0;
        private int blunders = 0;
        private final int[] steps = new int[MOST_STEPS_BACK * STEP];
        private int stepsKnown = 0;

        private void begins(Sideboard board) {
            for (int d = 0; d < MOST_DECANTERS; d++) {
                levels[d] = board.levels[d];
                teas[d] = 0;
                labels[d] = board.labels[d];
            }
            months = 0;
            done = 0;
            earned = 0;
            blunders = 0;
            stepsKnown = 0;
        }

        private void loses(int d, int drops) {
            if (d >= 0 && d < MOST_DECANTERS) {
                levels[d] = Math.max(0, levels[d] - drops);
                teas[d] = Math.min(teas[d], levels[d]);
            }
        }

        private void remembers() {
            if (stepsKnown >= MOST_STEPS_BACK) {
                stepsKnown = MOST_STEPS_BACK - 1;
                System.arraycopy(steps, STEP, steps, 0, stepsKnown * STEP);
            }
            int at = stepsKnown * STEP;
            System.arraycopy(levels, 0, steps, at, MOST_DECANTERS);
            System.arraycopy(teas, 0, steps, at + TEAS_AT, MOST_DECANTERS);
            System.arraycopy(labels, 0, steps, at + LABELS_AT, MOST_DECANTERS);
            steps[at + REST_AT] = months;
            steps[at + REST_AT + 1] = done;
            steps[at + REST_AT + 2] = earned;
            steps[at + REST_AT + 3] = blunders;
            stepsKnown++;
        }

        private boolean stepsBack() {
            if (stepsKnown <= 0) {
                return false;
            }
            stepsKnown--;
            int at = stepsKnown * STEP;
            System.arraycopy(steps, at, levels, 0, MOST_DECANTERS);
            System.arraycopy(steps, at + TEAS_AT, teas, 0, MOST_DECANTERS);
            System.arraycopy(steps, at + LABELS_AT, labels, 0, MOST_DECANTERS);
            months = steps[at + REST_AT];
            done = steps[at + REST_AT + 1];
            earned = steps[at + REST_AT + 2];
            blunders = steps[at + REST_AT + 3];
            return true;
        }

        private void becomes(Present other) {
            System.arraycopy(other.levels, 0, levels, 0, MOST_DECANTERS);
            System.arraycopy(other.teas, 0, teas, 0, MOST_DECANTERS);
            System.arraycopy(other.labels, 0, labels, 0, MOST_DECANTERS);
            months = other.months;
            done = other.done;
            earned = other.earned;
            blunders = other.blunders;
            System.arraycopy(other.steps, 0, steps, 0, MOST_STEPS_BACK * STEP);
            stepsKnown = other.stepsKnown;
        }
    }

    /** THE TEXT, and how it is read: token by token, the latest one standing in the fields. */
    private static final class Text {
        private static final int END = 0, LETTERS = 1, NUMBER = 2, STOP = 3, WRONG = 4;
        private static final int NO_BYTE = -1;
        private static final int FAULTS_FROM = -10;

        private final int[] bytes = new int[MOST_BYTES];
        private int length = 0;
        private int place = 0;
        private int token = END;
        private int tokenAt = 0;
        private int value = 0;

        private boolean takes(int c) {
            if (length < 0 || length >= MOST_BYTES) {
                return false;
            }
            bytes[length] = c;
            length++;
            return true;
        }

        /** How many ITEMS were read into the draft, or FAULTS_FROM less the FAULT. */
        private int readsInto(Sideboard draft) {
            place = 0;
            int items = 0;
            advances();
            while (token != END && items < MOST_BYTES) {
                if (!readsItem(draft)) {
                    return FAULTS_FROM - tokenAt;
                }
                items++;
                advances();
            }
            return items;
        }

        private boolean readsItem(Sideboard draft) {
            if (token != LETTERS) {
                return false;
            }
            switch (value) {
                case 'd':
                    return draft.decanters < MOST_DECANTERS && readsDecanter(draft);
                case 'a':
                    return draft.acts < MOST_ACTS && readsAct(draft);
                case 'x':
                    return readsExchange(draft);
                default:
                    return false;
            }
        }

        private boolean readsDecanter(Sideboard draft) {
            if (!readsNumber(MOST_LEVEL)) {
                return false;
            }
            int level = value;
            if (!readsNumber(MOST_AIR)) {
                return false;
            }
            draft.addsDecanter(level, value);
            return readsStop();
        }

        private boolean readsAct(Sideboard draft) {
            if (!readsNumber(MOST_WORTH)) {
                return false;
            }
            draft.addsAct(value);
            advances();
            for (int twos = 0; twos < MOST_TWOS && token == NUMBER; twos++) {
                int quality = value;
                if (quality >= draft.decanters || !readsNumber(MOST_NEEDED)) {
                    return false;
                }
                draft.latestActNeeds(quality, value);
                advances();
            }
            return token == STOP;
        }

        private boolean readsExchange(Sideboard draft) {
            if (!readsNumber(draft.decanters - 1)) {
                return false;
            }
            int first = value;
            if (!readsNumber(draft.decanters - 1) || value == first) {
                return false;
            }
            draft.exchangesLabels(first, value);
            return readsStop();
        }

        private boolean readsNumber(int most) {
            advances();
            return token == NUMBER && value <= most;
        }

        private boolean readsStop() {
            advances();
            return token == STOP;
        }

        /** To the next token. At the text's end tokenAt is its length: the FAULT of one that ends too early. */
        private void advances() {
            while (place < length && byteAt(place) == ' ') {
                place++;
            }
            tokenAt = place;
            int first = byteAt(place);
            int last = first;
            token = sortOf(first);
            boolean isRow = token == LETTERS || token == NUMBER;
            while (place < length && (place == tokenAt || isRow && sortOf(byteAt(place)) == token)) {
                last = byteAt(place);
                place++;
            }
            setsValue(first, last, place - tokenAt);
        }

        /** Several letters begin no ITEM; three digits or more are above 99, or have a 0 ahead. */
        private void setsValue(int first, int last, int width) {
            if (token != NUMBER) {
                value = width == 1 ? first : NO_BYTE;
            } else if (width == 1) {
                value = first - '0';
            } else if (width == 2 && first != '0') {
                value = 10 * (first - '0') + last - '0';
            } else {
                token = WRONG;
            }
        }

        private int byteAt(int at) {
            return at >= 0 && at < length && at < MOST_BYTES ? bytes[at] : NO_BYTE;
        }

        private static int sortOf(int c) {
            if (c == NO_BYTE) {
                return END;
            }
            if (c >= 'a' && c <= 'z') {
                return LETTERS;
            }
            if (c >= '0' && c <= '9') {
                return NUMBER;
            }
            return c == ';' ? STOP : WRONG;
        }
    }
}
