/** Notes on a horn, with valves or a slide: what ways they have, and what a part costs. */
public final class BrassWays {
    public static final int UNKNOWN = -1, OUTSIDE = -2, STATE = -3, FULL = -4, NO = -5, NONE = -6;

    private static final int SLIDE = 1;
    private static final int VALVES = 3;
    private static final int LONGEST = 400;
    private static final int LENGTH_STEP = 5;
    private static final int PARTIALS = 8;
    private static final int SETTINGS = 8;
    private static final int SLIDE_SETTINGS = 7;
    private static final int WAYS = PARTIALS * SETTINGS;
    private static final int NOTES = 37;
    private static final int PLACES = 12;
    private static final int IMAGES = 2;
    private static final int RULES = 5;
    private static final int LOSS = 0, LIMIT = 1, MOVE = 2, LIP = 3, CARE = 4;

    // Partials stand 231 or more apart and no way may be off by more than 99, so a
    // setting sounds a note by one partial at most: no note has more ways than this.
    private static final int MOST_WAYS = SETTINGS;

    // Above every cost of a plan, and so low that some of them added stay an int.
    private static final int FAR = 1000000;

    private static final int[] HIGH = {0, 1200, 1902, 2400, 2786, 3102, 3369, 3600};
    private static final int[] RULE_TOP = {50, 99, 9, 9, 9};

    private final Setup now = new Setup();
    private final Setup[] images = {new Setup(), new Setup()};
    private int imagesKept = 0;

    // Rows that calls use again, so that no call makes an object.
    private final Planner planner = new Planner();
    private final int[] waysOfOne = new int[MOST_WAYS];
    private final int[] waysOfOther = new int[MOST_WAYS];
    private final int[] trialLengths = new int[VALVES];
    private final int[] trialDrops = new int[SETTINGS];

    public BrassWays() {
    }

    // ---- 1 the horn

    public int horn(int v) {
        if (v < 0 || v > SLIDE) {
            return OUTSIDE;
        }
        int was = now.kind;
        now.kind = v;
        return was;
    }

    public int valve(int valve, int v) {
        if (!isValve(valve)) {
            return UNKNOWN;
        }
        if (v < 0 || v > LONGEST) {
            return OUTSIDE;
        }
        int was = now.lengths[valve];
        now.lengths[valve] = v;
        return was;
    }

    public int rule(int what, int v) {
        if (what < 0 || what >= RULES || v < 0 || v > RULE_TOP[what]) {
            return OUTSIDE;
        }
        int was = now.rules[what];
        now.rules[what] = v;
        return was;
    }

    public int lowers(int setting) {
        return now.hasSetting(setting) ? now.dropOf(setting) + 1000 : OUTSIDE;
    }

    public int off(int way, int note) {
        return now.hasWay(way) && isNote(note) ? now.offBy(way, note) + 10000 : OUTSIDE;
    }

    public int ways(int note, int i) {
        if (!isNote(note) || i < -1) {
            return OUTSIDE;
        }
        int found = now.gatherWays(note, waysOfOne, 0);
        if (i == -1) {
            return found;
        }
        return i < found ? waysOfOne[i] : NONE;
    }

    public int truest(int note) {
        if (!isNote(note)) {
            return OUTSIDE;
        }
        int found = now.gatherWays(note, waysOfOne, 0);
        int best = NONE;
        int leastSize = FAR;
        for (int i = 0; i < found; i++) {
            int size = Math.abs(now.offBy(waysOfOne[i], note));
            if (size < leastSize) {
                leastSize = size;
                best = waysOfOne[i];
            }
        }
        return best;
    }

    public int range(int what) {
        if (what < -1 || what > WAYS) {
            return OUTSIDE;
        }
        int many = 0;
        for (int note = 0; note < NOTES; note++) {
            int found = now.gatherWays(note, waysOfOne, 0);
            if (what == -1 ? found > 0 : found == what) {
                many++;
            }
        }
        return many;
    }

    // ---- 2 parts

    public int note(int note) {
        if (!isNote(note)) {
            return OUTSIDE;
        }
        if (now.size >= PLACES) {
            return FULL;
        }
        int place = now.size;
        now.notes[place] = note;
        now.size = place + 1;
        return place;
    }

    public int set(int place, int note) {
        if (!isPlace(place)) {
            return UNKNOWN;
        }
        if (!isNote(note)) {
            return OUTSIDE;
        }
        int was = now.notes[place];
        now.notes[place] = note;
        return was;
    }

    public int clear() {
        int had = now.size;
        now.size = 0;
        return had;
    }

    public int effort(int one, int other) {
        return now.hasWay(one) && now.hasWay(other) ? now.motion(one, other) : OUTSIDE;
    }

    public int least(int i) {
        if (i < -1) {
            return OUTSIDE;
        }
        if (i >= now.size) {
            return NONE;
        }
        planner.workOut(now);
        if (!planner.hasPlan()) {
            return NONE;
        }
        return i == -1 ? planner.leastCost() : planner.leastWayAt(now, i);
    }

    public long plans(int what) {
        if (what < 0 || (what > 1 && what < 10) || what >= 10 + PLACES) {
            return OUTSIDE;
        }
        planner.workOut(now);
        if (what == 0) {
            return planner.countAll();
        }
        if (what == 1) {
            return planner.countLeast();
        }
        int place = what - 10;
        return isPlace(place) && planner.hasPlan() ? planner.countWaysAt(now, place) : NONE;
    }

    public int dumb() {
        for (int place = 0; place < now.size; place++) {
            if (now.gatherWays(now.notes[place], waysOfOne, 0) == 0) {
                return place;
            }
        }
        return NONE;
    }

    // ---- 3 trills, tuning

    public int trill(int one, int other) {
        return isNote(one) && isNote(other) ? leastMotion(one, other) : OUTSIDE;
    }

    public int awkward(int d, int limit) {
        if (d < 1 || d > 12 || limit < 0 || limit > 99) {
            return OUTSIDE;
        }
        int many = 0;
        // Where there is no trill the answer is NONE, which is below every limit.
        for (int note = 0; note + d < NOTES; note++) {
            if (leastMotion(note, note + d) > limit) {
                many++;
            }
        }
        return many;
    }

    public int tune(int valve, int what) {
        if (!isValve(valve)) {
            return UNKNOWN;
        }
        if (what < 0 || what > 1) {
            return OUTSIDE;
        }
        if (now.kind == SLIDE) {
            return STATE;
        }
        int best = 0;
        int leastMiss = missOfPart(valve, 0);
        for (int length = LENGTH_STEP; length <= LONGEST; length += LENGTH_STEP) {
            int miss = missOfPart(valve, length);
            if (miss < leastMiss) {
                leastMiss = miss;
                best = length;
            }
        }
        return what == 0 ? best : leastMiss;
    }

    // ---- 4 images

    public int image(int k) {
        if (k < 0 || k >= IMAGES) {
            return OUTSIDE;
        }
        images[k].takeFrom(now);
        imagesKept |= 1 << k;
        return 1;
    }

    public int restore(int k) {
        if (k < 0 || k >= IMAGES) {
            return OUTSIDE;
        }
        if ((imagesKept >> k & 1) == 0) {
            return STATE;
        }
        now.takeFrom(images[k]);
        return 1;
    }

    public int count(int what) {
        if (what == 0) {
            return now.kind;
        }
        if (what == 1) {
            return now.size;
        }
        if (what == 2) {
            return imagesKept;
        }
        if (what >= 10 && what < 10 + RULES) {
            return now.rules[what - 10];
        }
        if (what >= 20 && what < 20 + VALVES) {
            return now.lengths[what - 20];
        }
        if (what >= 30 && what < 30 + PLACES) {
            return isPlace(what - 30) ? now.notes[what - 30] : NONE;
        }
        return OUTSIDE;
    }

    private static boolean isValve(int valve) {
        return valve >= 0 && valve < VALVES;
    }

    private static boolean isNote(int note) {
        return note >= 0 && note < NOTES;
    }

    private boolean isPlace(int place) {
        return place >= 0 && place < now.size;
    }

    private int leastMotion(int one, int other) {
        int foundOne = now.gatherWays(one, waysOfOne, 0);
        int foundOther = now.gatherWays(other, waysOfOther, 0);
        if (foundOne == 0 || foundOther == 0) {
            return NONE;
        }
        int best = FAR;
        for (int i = 0; i < foundOne; i++) {
            for (int j = 0; j < foundOther; j++) {
                best = Math.min(best, now.motion(waysOfOne[i], waysOfOther[j]));
            }
        }
        return best;
    }

    /** What is least by the best length: how far all places are off at best, were the valve so long. */
    private int missOfPart(int valve, int length) {
        for (int v = 0; v < VALVES; v++) {
            trialLengths[v] = v == valve ? length : now.lengths[v];
        }
        for (int setting = 0; setting < SETTINGS; setting++) {
            trialDrops[setting] = valveDrop(setting, trialLengths, now.rules[LOSS]);
        }
        int miss = 0;
        for (int place = 0; place < now.size; place++) {
            miss += nearestMiss(now.notes[place]);
        }
        return miss;
    }

    private int nearestMiss(int note) {
        int nearest = FAR;
        for (int setting = 0; setting < SETTINGS; setting++) {
            int sought = trialDrops[setting] + 100 * note;
            for (int partial = 0; partial < PARTIALS; partial++) {
                nearest = Math.min(nearest, Math.abs(HIGH[partial] - sought));
            }
        }
        return nearest;
    }

    private static int valveDrop(int setting, int[] lengths, int loss) {
        int drop = 0;
        int pressed = 0;
        for (int v = 0; v < VALVES; v++) {
            if ((setting >> v & 1) == 1) {
                // Each valve more makes a pair with every one that is pressed already.
                drop += lengths[v] - loss * pressed;
                pressed++;
            }
        }
        return drop;
    }

    /** All that an image keeps: the horn, its rules and the part. */
    private static final class Setup {
        int kind = 0;
        final int[] lengths = {200, 100, 300};
        final int[] rules = {10, 35, 2, 1, 1};
        final int[] notes = new int[PLACES];
        int size = 0;

        void takeFrom(Setup from) {
            kind = from.kind;
            size = from.size;
            System.arraycopy(from.lengths, 0, lengths, 0, VALVES);
            System.arraycopy(from.rules, 0, rules, 0, RULES);
            System.arraycopy(from.notes, 0, notes, 0, PLACES);
        }

        boolean hasSetting(int setting) {
            return setting >= 0 && setting < (kind == SLIDE ? SLIDE_SETTINGS : SETTINGS);
        }

        boolean hasWay(int way) {
            return way >= 0 && way < WAYS && hasSetting(way % SETTINGS);
        }

        int dropOf(int setting) {
            return kind == SLIDE ? 100 * setting : valveDrop(setting, lengths, rules[LOSS]);
        }

        int offBy(int way, int note) {
            return HIGH[way / SETTINGS] - dropOf(way % SETTINGS) - 100 * note;
        }

        /** Puts the ways of a note, rising, into the row from a cell on; answers how many. */
        int gatherWays(int note, int[] into, int from) {
            int found = 0;
            for (int way = 0; way < WAYS; way++) {
                if (found < MOST_WAYS && hasWay(way) && Math.abs(offBy(way, note)) <= rules[LIMIT]) {
                    into[from + found] = way;
                    found++;
                }
            }
            return found;
        }

        int motion(int one, int other) {
            int oneSetting = one % SETTINGS;
            int otherSetting = other % SETTINGS;
            int moved = kind == SLIDE
                    ? Math.abs(oneSetting - otherSetting)
                    : Integer.bitCount(oneSetting ^ otherSetting);
            int leapt = Math.abs(one / SETTINGS - other / SETTINGS);
            return rules[MOVE] * moved + rules[LIP] * leapt;
        }

        int fault(int way, int note) {
            return rules[CARE] * Math.abs(offBy(way, note)) / 10;
        }
    }

    /**
     * The plans of a part, worked out from its last place back to its first.
     * The i-th way at a place has the cell MOST_WAYS * place + i in each row.
     */
    private static final class Planner {
        int size = 0;
        final int[] found = new int[PLACES];
        final int[] wayIn = new int[PLACES * MOST_WAYS];
        // The least that a plan costs behind the way of a cell, and with it.
        final int[] behind = new int[PLACES * MOST_WAYS];
        final int[] onward = new int[PLACES * MOST_WAYS];
        // How many runs of ways from the cell on cost that least.
        final long[] ties = new long[PLACES * MOST_WAYS];

        void workOut(Setup setup) {
            size = setup.size;
            for (int place = 0; place < size; place++) {
                found[place] = setup.gatherWays(setup.notes[place], wayIn, MOST_WAYS * place);
            }
            for (int place = size - 1; place >= 0; place--) {
                for (int i = 0; i < found[place]; i++) {
                    weigh(setup, place, MOST_WAYS * place + i);
                }
            }
        }

        private void weigh(Setup setup, int place, int cell) {
            int cheapest = 0;
            long many = 1;
            if (place + 1 < size) {
                cheapest = FAR;
                many = 0;
                int first = MOST_WAYS * (place + 1);
                for (int next = first; next < first + found[place + 1]; next++) {
                    int cost = setup.motion(wayIn[cell], wayIn[next]) + onward[next];
                    if (cost < cheapest) {
                        cheapest = cost;
                        many = ties[next];
                    } else if (cost == cheapest) {
                        many += ties[next];
                    }
                }
            }
            behind[cell] = cheapest;
            onward[cell] = cheapest + setup.fault(wayIn[cell], setup.notes[place]);
            ties[cell] = many;
        }

        boolean hasPlan() {
            return countAll() > 0;
        }

        long countAll() {
            long all = 1;
            for (int place = 0; place < size; place++) {
                all *= found[place];
            }
            return all;
        }

        int leastCost() {
            if (size == 0) {
                return 0;
            }
            int cheapest = FAR;
            for (int i = 0; i < found[0]; i++) {
                cheapest = Math.min(cheapest, onward[i]);
            }
            return cheapest;
        }

        long countLeast() {
            if (size == 0 || !hasPlan()) {
                return countAll();
            }
            int cheapest = leastCost();
            long many = 0;
            for (int i = 0; i < found[0]; i++) {
                if (onward[i] == cheapest) {
                    many += ties[i];
                }
            }
            return many;
        }

        int countWaysAt(Setup setup, int place) {
            int marked = firstMarks();
            for (int p = 0; p < place; p++) {
                marked = nextMarks(setup, p, marked);
            }
            return Integer.bitCount(marked);
        }

        /** Follows the least way of each place that still leads to the least cost. */
        int leastWayAt(Setup setup, int place) {
            int marked = lowestMark(firstMarks());
            for (int p = 0; p < place; p++) {
                marked = lowestMark(nextMarks(setup, p, marked));
            }
            // A lone mark less 1 has a bit for each way that stands ahead of it.
            int i = Integer.bitCount(marked - 1);
            return marked != 0 && place < size ? wayIn[MOST_WAYS * place + i] : NONE;
        }

        private static int lowestMark(int marked) {
            return marked & -marked;
        }

        /** The set of ways at the first place with which a plan of the least cost begins. */
        private int firstMarks() {
            int cheapest = leastCost();
            int marked = 0;
            for (int i = 0; i < found[0]; i++) {
                if (onward[i] == cheapest) {
                    marked |= 1 << i;
                }
            }
            return marked;
        }

        /** The set of ways that follow, at no more than the least cost, a marked one of a place. */
        private int nextMarks(Setup setup, int place, int marked) {
            int next = 0;
            if (place + 1 >= size) {
                return next;
            }
            for (int i = 0; i < found[place]; i++) {
                for (int j = 0; j < found[place + 1]; j++) {
                    int from = MOST_WAYS * place + i;
                    int to = MOST_WAYS * (place + 1) + j;
                    int cost = setup.motion(wayIn[from], wayIn[to]) + onward[to];
                    if ((marked >> i & 1) == 1 && cost == behind[from]) {
                        next |= 1 << j;
                    }
                }
            }
            return next;
        }
    }
}
