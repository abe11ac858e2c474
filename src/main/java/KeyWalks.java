/** Keys of a piece: rows of keys of least cost over slices of weighted pitches. See README.md. */
public final class KeyWalks {
    public static final int NONE = -1;

    private static final int PITCHES = 12;
    private static final int MODES = 2;
    private static final int KEYS = 24;
    private static final int MOST_SLICES = 40;
    private static final int MOST_WEIGHT = 200;
    private static final int MOST_NUMBER = 99;
    private static final int MOST_TURN_NUMBER = 1000;
    private static final int MOST_SLACK = 100000;
    /** No walk costs more than 40 * 12 * 200 * 99 + 39 * 8000, and a hundred times that is still an int. */
    private static final int ABOVE_ALL_COSTS = 1000000000;
    private static final int FIRST_BASE = 10;
    private static final int FIRST_BY = 5;
    private static final int FIRST_OVER = 2;
    private static final long MOST_COUNT = 1000000000000000000L;
    private static final int[] FIRST_PROFILES = {
        5, 0, 3, 0, 3, 3, 0, 3, 0, 3, 0, 3,
        5, 0, 3, 3, 0, 3, 0, 3, 3, 0, 0, 3
    };

    // What the caller has told. A row of numbers stands at mode * PITCHES, one of weights at slice * PITCHES.
    private final int[] profiles = new int[MODES * PITCHES];
    private final int[] weights = new int[MOST_SLICES * PITCHES];
    private int base;
    private int by;
    private int over;
    private int slices;

    // What follows from it, worked out only when it is asked for and kept until something changes.
    // All rows are made once here, since every call of a run shares one room.
    private final int[] turns = new int[KEYS * KEYS];
    private final int[] sliceCosts = new int[MOST_SLICES * KEYS];
    /** Least cost of the slices from this one to the last, if this one has the key. */
    private final int[] tails = new int[MOST_SLICES * KEYS];
    /** How many rows of keys have the cost in tails, MOST_COUNT at most. */
    private final long[] ways = new long[MOST_SLICES * KEYS];
    /** Least cost of the slices from 0 to this one, if this one has the key. */
    private final int[] heads = new int[MOST_SLICES * KEYS];
    private final int[] firstKeys = new int[MOST_SLICES];
    private final int[] pickedKeys = new int[MOST_SLICES];
    private int leastCost;
    private long bestCount;
    private boolean tailsKnown;
    private boolean headsKnown;

    /** Promise 1. */
    public KeyWalks() {
        setFirst();
    }

    /** Promise 2. */
    public int clear() {
        int before = slices;
        setFirst();
        return before;
    }

    /** Promise 3. */
    public int profile(int mode, int step, int number) throws IllegalArgumentException {
        requireWithin(mode, 0, MODES - 1);
        requireWithin(step, 0, PITCHES - 1);
        requireWithin(number, 0, MOST_NUMBER);
        int at = mode * PITCHES + step;
        int before = profiles[at];
        profiles[at] = number;
        forget();
        return before;
    }

    /** Promise 4. */
    public int costs(int base, int by, int over) throws IllegalArgumentException {
        requireWithin(base, 0, MOST_TURN_NUMBER);
        requireWithin(by, 0, MOST_TURN_NUMBER);
        requireWithin(over, 0, MOST_TURN_NUMBER);
        int others = (this.base != base ? 1 : 0) + (this.by != by ? 1 : 0) + (this.over != over ? 1 : 0);
        this.base = base;
        this.by = by;
        this.over = over;
        forget();
        return others;
    }

    /** Promise 5. */
    public int slice() throws IllegalStateException {
        if (slices >= MOST_SLICES) {
            throw new IllegalStateException("there are 40 slices");
        }
        int added = slices;
        // A slice that was dropped or cleared may have left its weights here.
        for (int pitch = 0; pitch < PITCHES; pitch++) {
            weights[added * PITCHES + pitch] = 0;
        }
        slices++;
        forget();
        return added;
    }

    /** Promise 6. */
    public int note(int slice, int pitch, int weight) throws IllegalArgumentException, IllegalStateException {
        requireSlice(slice);
        requireWithin(pitch, 0, PITCHES - 1);
        requireWithin(weight, 1, MOST_WEIGHT);
        int at = slice * PITCHES + pitch;
        int heavier = weights[at] + weight;
        if (heavier > MOST_WEIGHT) {
            throw new IllegalStateException("the weight would be above 200");
        }
        weights[at] = heavier;
        forget();
        return heavier;
    }

    /** Promise 7. */
    public int drop() throws IllegalStateException {
        if (slices <= 0) {
            throw new IllegalStateException("there is no slice");
        }
        slices--;
        forget();
        return slices;
    }

    /** Promise 8. */
    public int fit(int slice, int key) throws IllegalArgumentException {
        requireSlice(slice);
        requireKey(key);
        return fitIn(slice, key);
    }

    /** Promise 9. */
    public int cost(int slice, int key) throws IllegalArgumentException {
        requireSlice(slice);
        requireKey(key);
        return greatestFit(slice) - fitIn(slice, key);
    }

    /** Promise 10. */
    public int turn(int from, int to) throws IllegalArgumentException {
        requireKey(from);
        requireKey(to);
        return turnBetween(from, to);
    }

    /** Promise 11. */
    public int least() {
        knowTails();
        return leastCost;
    }

    /** Promise 12. */
    public int key(int slice) throws IllegalArgumentException {
        requireSlice(slice);
        knowTails();
        return firstKeys[slice];
    }

    /** Promise 13. */
    public long count() {
        knowTails();
        return bestCount;
    }

    /** Promise 14. */
    public int pick(long i, int slice) throws IllegalArgumentException {
        if (i < 0 || i >= MOST_COUNT) {
            throw new IllegalArgumentException("there is no such place among the best walks");
        }
        requireSlice(slice);
        knowTails();
        return followBest(i, slice, pickedKeys);
    }

    /** Promise 15. */
    public int through(int slice, int key) throws IllegalArgumentException {
        requireSlice(slice);
        requireKey(key);
        knowHeads();
        return leastThrough(slice, key);
    }

    /** Promise 16. */
    public int near(int slice, int slack) throws IllegalArgumentException {
        requireSlice(slice);
        requireWithin(slack, 0, MOST_SLACK);
        knowHeads();
        int bits = 0;
        for (int key = 0; key < KEYS; key++) {
            if (leastThrough(slice, key) <= leastCost + slack) {
                bits |= 1 << key;
            }
        }
        return bits;
    }

    /** Promise 17. */
    public int sure(int slice) throws IllegalArgumentException, ArithmeticException {
        requireSlice(slice);
        knowHeads();
        int next = nextCost(slice);
        if (next == 0) {
            throw new ArithmeticException("the next cost is 0");
        }
        return 100 * (next - leastCost) / next;
    }

    /** Promise 18. */
    public int change(int i) throws IllegalArgumentException {
        if (i < 0) {
            throw new IllegalArgumentException("there is no change below 0");
        }
        knowTails();
        int ahead = 0;
        for (int s = 1; s < slices; s++) {
            if (changesAt(s)) {
                if (ahead == i) {
                    return s;
                }
                ahead++;
            }
        }
        return NONE;
    }

    /** Promise 19. */
    public boolean pivot(int slice, int one, int other) throws IllegalArgumentException {
        requireSlice(slice);
        requireKey(one);
        requireKey(other);
        for (int pitch = 0; pitch < PITCHES; pitch++) {
            boolean sounds = weights[slice * PITCHES + pitch] > 0;
            if (sounds && (numberOf(pitch, one) == 0 || numberOf(pitch, other) == 0)) {
                return false;
            }
        }
        return true;
    }

    /** Promise 20. */
    public int whole(int first, int last) throws IllegalArgumentException {
        requireSlice(first);
        requireSlice(last);
        if (first > last) {
            throw new IllegalArgumentException("the first slice is behind the last one");
        }
        int found = 0;
        int greatest = fitTogether(first, last, 0);
        for (int key = 1; key < KEYS; key++) {
            int together = fitTogether(first, last, key);
            if (together > greatest) {
                greatest = together;
                found = key;
            }
        }
        return found;
    }

    /** Promise 21. */
    public int of(int what) throws IllegalArgumentException {
        switch (what) {
            case 0:
                return slices;
            case 1:
                return base;
            case 2:
                return by;
            case 3:
                return over;
            case 4:
                return changesOfFirst();
            default:
                throw new IllegalArgumentException("there is no such number to tell");
        }
    }

    private void setFirst() {
        System.arraycopy(FIRST_PROFILES, 0, profiles, 0, MODES * PITCHES);
        base = FIRST_BASE;
        by = FIRST_BY;
        over = FIRST_OVER;
        slices = 0;
        forget();
    }

    private void forget() {
        tailsKnown = false;
        headsKnown = false;
    }

    private void requireSlice(int slice) {
        requireWithin(slice, 0, slices - 1);
    }

    private static void requireKey(int key) {
        requireWithin(key, 0, KEYS - 1);
    }

    private static void requireWithin(int number, int lowest, int highest) {
        if (number < lowest || number > highest) {
            throw new IllegalArgumentException("a number is outside what is told");
        }
    }

    private static int tonicOf(int key) {
        return key % PITCHES;
    }

    private static int modeOf(int key) {
        return key / PITCHES;
    }

    /** A minor key stands at the place of the major key three steps above it. */
    private static int placeOf(int key) {
        int tonic = modeOf(key) == 0 ? tonicOf(key) : tonicOf(key) + 3;
        return 7 * tonic % PITCHES;
    }

    private int numberOf(int pitch, int key) {
        int step = (pitch + PITCHES - tonicOf(key)) % PITCHES;
        return profiles[modeOf(key) * PITCHES + step];
    }

    private int fitIn(int slice, int key) {
        int sum = 0;
        for (int pitch = 0; pitch < PITCHES; pitch++) {
            sum += weights[slice * PITCHES + pitch] * numberOf(pitch, key);
        }
        return sum;
    }

    private int greatestFit(int slice) {
        int greatest = 0;
        for (int key = 0; key < KEYS; key++) {
            greatest = Math.max(greatest, fitIn(slice, key));
        }
        return greatest;
    }

    private int fitTogether(int first, int last, int key) {
        int sum = 0;
        for (int s = first; s <= last; s++) {
            sum += fitIn(s, key);
        }
        return sum;
    }

    private int turnBetween(int from, int to) {
        if (from == to) {
            return 0;
        }
        int oneWay = Math.abs(placeOf(from) - placeOf(to));
        int apart = Math.min(oneWay, PITCHES - oneWay);
        return base + by * apart + (modeOf(from) != modeOf(to) ? over : 0);
    }

    private void knowTails() {
        if (tailsKnown) {
            return;
        }
        fillTurns();
        for (int s = slices - 1; s >= 0; s--) {
            fillSliceCosts(s);
            for (int key = 0; key < KEYS; key++) {
                fillTail(s, key);
            }
        }
        fillLeast();
        if (slices > 0) {
            followBest(0, slices - 1, firstKeys);
        }
        tailsKnown = true;
    }

    private void fillTurns() {
        for (int from = 0; from < KEYS; from++) {
            for (int to = 0; to < KEYS; to++) {
                turns[from * KEYS + to] = turnBetween(from, to);
            }
        }
    }

    private void fillSliceCosts(int slice) {
        int greatest = 0;
        for (int key = 0; key < KEYS; key++) {
            int fitting = fitIn(slice, key);
            sliceCosts[slice * KEYS + key] = fitting;
            greatest = Math.max(greatest, fitting);
        }
        for (int key = 0; key < KEYS; key++) {
            sliceCosts[slice * KEYS + key] = greatest - sliceCosts[slice * KEYS + key];
        }
    }

    private void fillTail(int slice, int key) {
        int at = slice * KEYS + key;
        if (slice == slices - 1) {
            tails[at] = sliceCosts[at];
            ways[at] = 1;
            return;
        }
        int lowest = ABOVE_ALL_COSTS;
        long many = 0;
        for (int to = 0; to < KEYS; to++) {
            int behind = at - key + KEYS + to;
            int rest = turns[key * KEYS + to] + tails[behind];
            if (rest < lowest) {
                lowest = rest;
                many = ways[behind];
            } else if (rest == lowest) {
                many = cappedSum(many, ways[behind]);
            }
        }
        tails[at] = sliceCosts[at] + lowest;
        ways[at] = many;
    }

    private void fillLeast() {
        leastCost = 0;
        bestCount = 1;
        if (slices == 0) {
            return;
        }
        leastCost = tails[0];
        for (int key = 1; key < KEYS; key++) {
            leastCost = Math.min(leastCost, tails[key]);
        }
        bestCount = 0;
        for (int key = 0; key < KEYS; key++) {
            if (tails[key] == leastCost) {
                bestCount = cappedSum(bestCount, ways[key]);
            }
        }
    }

    /** Capping each sum keeps it a long: 24 full counts would not fit into one. */
    private static long cappedSum(long one, long other) {
        return Math.min(one + other, MOST_COUNT);
    }

    /**
     * Writes the keys of the best walk with i best ones ahead of it into row, up to the slice last, and answers
     * that slice's key, or NONE if there are not so many. A capped count is above every i, so capping misleads
     * no step.
     */
    private int followBest(long i, int last, int[] row) {
        long left = i;
        int before = NONE;
        for (int s = 0; s <= last; s++) {
            int rest = restAfter(s - 1, before);
            int chosen = NONE;
            for (int key = 0; key < KEYS && chosen == NONE; key++) {
                int at = s * KEYS + key;
                if (turnInto(before, key) + tails[at] == rest) {
                    if (left < ways[at]) {
                        chosen = key;
                    } else {
                        left -= ways[at];
                    }
                }
            }
            if (chosen == NONE) {
                return NONE;
            }
            row[s] = chosen;
            before = chosen;
        }
        return before;
    }

    /** What a best walk still costs behind a slice with its key; before slice 0 there is none. */
    private int restAfter(int slice, int key) {
        return slice < 0 || key == NONE ? leastCost : tails[slice * KEYS + key] - sliceCosts[slice * KEYS + key];
    }

    private int turnInto(int before, int key) {
        return before == NONE ? 0 : turns[before * KEYS + key];
    }

    private void knowHeads() {
        knowTails();
        if (headsKnown) {
            return;
        }
        for (int s = 0; s < slices; s++) {
            for (int key = 0; key < KEYS; key++) {
                int at = s * KEYS + key;
                heads[at] = sliceCosts[at] + (s == 0 ? 0 : leastInto(s, key));
            }
        }
        headsKnown = true;
    }

    /** Least cost of all slices ahead of this one, which is not slice 0, and of the turn into its key. */
    private int leastInto(int slice, int key) {
        int lowest = ABOVE_ALL_COSTS;
        for (int from = 0; from < KEYS; from++) {
            lowest = Math.min(lowest, heads[(slice - 1) * KEYS + from] + turns[from * KEYS + key]);
        }
        return lowest;
    }

    private int leastThrough(int slice, int key) {
        int at = slice * KEYS + key;
        return heads[at] + tails[at] - sliceCosts[at];
    }

    private int nextCost(int slice) {
        int lowest = ABOVE_ALL_COSTS;
        for (int key = 0; key < KEYS; key++) {
            if (key != firstKeys[slice]) {
                lowest = Math.min(lowest, leastThrough(slice, key));
            }
        }
        return lowest;
    }

    private boolean changesAt(int slice) {
        return firstKeys[slice] != firstKeys[slice - 1];
    }

    private int changesOfFirst() {
        knowTails();
        int changes = 0;
        for (int s = 1; s < slices; s++) {
            if (changesAt(s)) {
                changes++;
            }
        }
        return changes;
    }
}
