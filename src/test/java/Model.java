import java.math.BigInteger;
import java.util.ArrayList;
import java.util.Arrays;
import java.util.List;

/**
 * The document said a second time, slowly: every question about walks is answered by the least cost, and the exact
 * count, of the walks whose first or some keys are pinned.
 */
final class Model {
    private static final BigInteger CAP = BigInteger.TEN.pow(18);
    private static final int FREE = -1;

    /** The least cost of some walks, and how many of them have it. */
    static final class Cheapest {
        final long cost;
        final BigInteger count;

        Cheapest(long cost, BigInteger count) {
            this.cost = cost;
            this.count = count;
        }
    }

    private final List<int[]> slices = new ArrayList<>();
    private int[][] numbers;
    private int base;
    private int by;
    private int over;
    private int[] first;
    private long[][] through;
    private int[][] costTable;
    private int[][] turnTable;

    Model() {
        begin();
    }

    private void begin() {
        slices.clear();
        numbers = new int[][] {new int[12], new int[12]};
        for (int step : new int[] {2, 4, 5, 7, 9, 11}) {
            numbers[0][step] = 3;
        }
        for (int step : new int[] {2, 3, 5, 7, 8, 11}) {
            numbers[1][step] = 3;
        }
        numbers[0][0] = 5;
        numbers[1][0] = 5;
        base = 10;
        by = 5;
        over = 2;
        forget();
    }

    private void forget() {
        first = null;
        through = null;
        costTable = null;
    }

    /** The answers of cost and turn kept in tables, for the many sums over walks. */
    private void fillTables() {
        if (costTable != null) {
            return;
        }
        costTable = new int[slices.size()][24];
        turnTable = new int[24][24];
        for (int key = 0; key < 24; key++) {
            for (int to = 0; to < 24; to++) {
                turnTable[key][to] = turn(key, to);
            }
            for (int s = 0; s < slices.size(); s++) {
                costTable[s][key] = cost(s, key);
            }
        }
    }

    private static void argument(boolean good) {
        if (!good) {
            throw new IllegalArgumentException();
        }
    }

    private static void state(boolean good) {
        if (!good) {
            throw new IllegalStateException();
        }
    }

    private void needSlice(int slice) {
        argument(slice >= 0 && slice < slices.size());
    }

    private static void needKey(int key) {
        argument(key >= 0 && key < 24);
    }

    int clear() {
        int had = slices.size();
        begin();
        return had;
    }

    int profile(int mode, int step, int number) {
        argument(mode == 0 || mode == 1);
        argument(step >= 0 && step <= 11);
        argument(number >= 0 && number <= 99);
        int had = numbers[mode][step];
        numbers[mode][step] = number;
        forget();
        return had;
    }

    int costs(int newBase, int newBy, int newOver) {
        for (int one : new int[] {newBase, newBy, newOver}) {
            argument(one >= 0 && one <= 1000);
        }
        int others = 0;
        others += newBase == base ? 0 : 1;
        others += newBy == by ? 0 : 1;
        others += newOver == over ? 0 : 1;
        base = newBase;
        by = newBy;
        over = newOver;
        forget();
        return others;
    }

    int slice() {
        state(slices.size() < 40);
        slices.add(new int[12]);
        forget();
        return slices.size() - 1;
    }

    int note(int slice, int pitch, int weight) {
        needSlice(slice);
        argument(pitch >= 0 && pitch <= 11);
        argument(weight >= 1 && weight <= 200);
        int[] row = slices.get(slice);
        state(row[pitch] + weight <= 200);
        row[pitch] += weight;
        forget();
        return row[pitch];
    }

    int drop() {
        state(!slices.isEmpty());
        slices.remove(slices.size() - 1);
        forget();
        return slices.size();
    }

    int fit(int slice, int key) {
        needSlice(slice);
        needKey(key);
        int sum = 0;
        for (int step = 0; step < 12; step++) {
            sum += slices.get(slice)[(key % 12 + step) % 12] * numbers[key / 12][step];
        }
        return sum;
    }

    int cost(int slice, int key) {
        needSlice(slice);
        needKey(key);
        int most = Integer.MIN_VALUE;
        for (int other = 0; other < 24; other++) {
            most = Math.max(most, fit(slice, other));
        }
        return most - fit(slice, key);
    }

    /** Walks the ring of fifths from one place until it meets the other one, both ways round. */
    int turn(int from, int to) {
        needKey(from);
        needKey(to);
        if (from == to) {
            return 0;
        }
        int up = 0;
        while ((place(from) + up) % 12 != place(to)) {
            up++;
        }
        int down = 0;
        while ((place(to) + down) % 12 != place(from)) {
            down++;
        }
        int sum = base + by * Math.min(up, down);
        return (from < 12) == (to < 12) ? sum : sum + over;
    }

    private static int place(int key) {
        return key < 12 ? key * 7 % 12 : (key - 12 + 3) * 7 % 12;
    }

    private Cheapest cheapest(int[] pins) {
        fillTables();
        int n = slices.size();
        long[] cost = new long[24];
        BigInteger[] count = new BigInteger[24];
        Arrays.fill(count, BigInteger.ONE);
        for (int s = 0; s < n; s++) {
            long[] newCost = new long[24];
            BigInteger[] newCount = new BigInteger[24];
            for (int key = 0; key < 24; key++) {
                newCost[key] = Long.MAX_VALUE / 4;
                newCount[key] = BigInteger.ZERO;
                if (pins[s] != FREE && pins[s] != key) {
                    continue;
                }
                for (int from = 0; from < (s == 0 ? 1 : 24); from++) {
                    long sum = (s == 0 ? 0 : cost[from] + turnTable[from][key]) + costTable[s][key];
                    if (sum < newCost[key]) {
                        newCost[key] = sum;
                        newCount[key] = count[from];
                    } else if (sum == newCost[key]) {
                        newCount[key] = newCount[key].add(count[from]);
                    }
                }
            }
            cost = newCost;
            count = newCount;
        }
        if (n == 0) {
            return new Cheapest(0, BigInteger.ONE);
        }
        long least = Arrays.stream(cost).min().getAsLong();
        BigInteger all = BigInteger.ZERO;
        for (int key = 0; key < 24; key++) {
            if (cost[key] == least) {
                all = all.add(count[key]);
            }
        }
        return new Cheapest(least, all);
    }

    private int[] free() {
        int[] pins = new int[slices.size()];
        Arrays.fill(pins, FREE);
        return pins;
    }

    int least() {
        return (int) cheapest(free()).cost;
    }

    long count() {
        return cheapest(free()).count.min(CAP).longValueExact();
    }

    /** The best walk with so many ahead of it, as far as the slice last; null if there are not so many. */
    private int[] best(long i, int last) {
        int[] pins = free();
        long least = cheapest(pins).cost;
        BigInteger left = BigInteger.valueOf(i);
        for (int s = 0; s <= last; s++) {
            boolean found = false;
            for (int key = 0; key < 24 && !found; key++) {
                pins[s] = key;
                Cheapest some = cheapest(pins);
                if (some.cost == least) {
                    found = left.compareTo(some.count) < 0;
                    left = found ? left : left.subtract(some.count);
                }
            }
            if (!found) {
                return null;
            }
        }
        return pins;
    }

    private int[] first() {
        if (first == null) {
            first = best(0, slices.size() - 1);
        }
        return first;
    }

    int key(int slice) {
        needSlice(slice);
        return first()[slice];
    }

    int pick(long i, int slice) {
        argument(i >= 0 && i <= 999999999999999999L);
        needSlice(slice);
        int[] walk = best(i, slice);
        return walk == null ? -1 : walk[slice];
    }

    int through(int slice, int key) {
        needSlice(slice);
        needKey(key);
        if (through == null) {
            through = new long[slices.size()][];
        }
        if (through[slice] == null) {
            through[slice] = new long[24];
            for (int one = 0; one < 24; one++) {
                int[] pins = free();
                pins[slice] = one;
                through[slice][one] = cheapest(pins).cost;
            }
        }
        return (int) through[slice][key];
    }

    int near(int slice, int slack) {
        needSlice(slice);
        argument(slack >= 0 && slack <= 100000);
        int least = least();
        int bits = 0;
        for (int key = 0; key < 24; key++) {
            bits += through(slice, key) - least <= slack ? 1 << key : 0;
        }
        return bits;
    }

    int sure(int slice) {
        needSlice(slice);
        long next = Long.MAX_VALUE;
        for (int key = 0; key < 24; key++) {
            next = key == key(slice) ? next : Math.min(next, through(slice, key));
        }
        if (next == 0) {
            throw new ArithmeticException();
        }
        return (int) (100 * (next - least()) / next);
    }

    private List<Integer> changes() {
        List<Integer> found = new ArrayList<>();
        for (int s = 1; s < slices.size(); s++) {
            if (first()[s] != first()[s - 1]) {
                found.add(s);
            }
        }
        return found;
    }

    int change(int i) {
        argument(i >= 0);
        List<Integer> all = changes();
        return i < all.size() ? all.get(i) : -1;
    }

    boolean pivot(int slice, int one, int other) {
        needSlice(slice);
        needKey(one);
        needKey(other);
        boolean all = true;
        for (int pitch = 0; pitch < 12; pitch++) {
            if (slices.get(slice)[pitch] != 0) {
                all &= numbers[one / 12][Math.floorMod(pitch - one, 12)] > 0;
                all &= numbers[other / 12][Math.floorMod(pitch - other, 12)] > 0;
            }
        }
        return all;
    }

    int whole(int from, int last) {
        needSlice(from);
        needSlice(last);
        argument(from <= last);
        long most = -1;
        int found = -1;
        for (int key = 0; key < 24; key++) {
            long sum = 0;
            for (int s = from; s <= last; s++) {
                sum += fit(s, key);
            }
            if (sum > most) {
                most = sum;
                found = key;
            }
        }
        return found;
    }

    int of(int what) {
        argument(what >= 0 && what <= 4);
        return what == 0 ? slices.size() : what == 1 ? base : what == 2 ? by : what == 3 ? over : changes().size();
    }
}
