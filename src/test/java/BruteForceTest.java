import java.util.ArrayList;
import java.util.Arrays;
import java.util.List;

/** Every walk of a short piece written out and added up: promises 11 to 18 and 21 over all of them. */
public final class BruteForceTest {
    private static final Check check = new Check();
    private static long seed = 20261115L;

    private static int below(int bound) {
        seed = seed * 6364136223846793005L + 1442695040888963407L;
        return (int) ((seed >>> 33) % bound);
    }

    public static void main(String[] args) {
        for (int run = 0; run < 120; run++) {
            KeyWalks x = new KeyWalks();
            Model m = new Model();
            fill(x, m, 1 + run % 3);
            compare("run " + run + ":", x, m, 1 + run % 3);
        }
        check.end();
    }

    /** The same piece twice: an object has too few calls to be asked for all turns and costs besides. */
    private static void fill(KeyWalks x, Model m, int slices) {
        int heavy = below(3) == 0 ? 200 : 6;
        for (int s = 0; s < slices; s++) {
            m.slice();
            x.slice();
            for (int notes = below(5); notes > 0; notes--) {
                int slice = s;
                int pitch = below(12);
                int weight = 1 + below(heavy);
                check.due("note", Check.told(() -> m.note(slice, pitch, weight)), () -> x.note(slice, pitch, weight));
            }
        }
        if (below(2) == 0) {
            int base = below(8);
            int by = below(4);
            int over = below(4);
            check.due("costs", m.costs(base, by, over), () -> x.costs(base, by, over));
        }
        for (int changes = below(4); changes > 0; changes--) {
            int mode = below(2);
            int step = below(12);
            int number = below(6);
            check.due("profile", m.profile(mode, step, number), () -> x.profile(mode, step, number));
        }
    }

    private static void compare(String when, KeyWalks x, Model m, int n) {
        int all = (int) Math.pow(24, n);
        long[][] through = new long[n][24];
        for (long[] row : through) {
            Arrays.fill(row, Long.MAX_VALUE);
        }
        long least = Long.MAX_VALUE;
        List<int[]> best = new ArrayList<>();
        int[][] turns = new int[24][24];
        int[][] costs = new int[n][24];
        for (int key = 0; key < 24; key++) {
            for (int to = 0; to < 24; to++) {
                turns[key][to] = m.turn(key, to);
            }
            for (int s = 0; s < n; s++) {
                costs[s][key] = m.cost(s, key);
            }
        }
        for (int number = 0; number < all; number++) {
            int[] walk = new int[n];
            for (int s = n - 1, rest = number; s >= 0; s--, rest /= 24) {
                walk[s] = rest % 24;
            }
            long cost = 0;
            for (int s = 0; s < n; s++) {
                cost += costs[s][walk[s]] + (s == 0 ? 0 : turns[walk[s - 1]][walk[s]]);
            }
            for (int s = 0; s < n; s++) {
                through[s][walk[s]] = Math.min(through[s][walk[s]], cost);
            }
            if (cost < least) {
                least = cost;
                best.clear();
            }
            if (cost == least) {
                best.add(walk);
            }
        }
        told(when, x, least, best, through);
    }

    private static void told(String when, KeyWalks x, long least, List<int[]> best, long[][] through) {
        check.due(when + " least", least, () -> x.least());
        check.due(when + " count", best.size(), () -> x.count());
        int[] first = best.get(0);
        List<Integer> changes = new ArrayList<>();
        for (int s = 0; s < first.length; s++) {
            int at = s;
            check.due(when + " key(" + s + ")", first[s], () -> x.key(at));
            if (s > 0 && first[s] != first[s - 1]) {
                changes.add(s);
            }
            for (int i = 0; i < best.size(); i += 1 + best.size() / 40) {
                int nth = i;
                check.due(when + " pick(" + i + ", " + s + ")", best.get(i)[s], () -> x.pick(nth, at));
            }
            check.due(when + " pick beyond", -1, () -> x.pick(best.size(), at));
            slice(when + " slice " + s, x, s, least, first[s], through[s]);
        }
        check.due(when + " of(4)", changes.size(), () -> x.of(4));
        for (int i = 0; i <= changes.size(); i++) {
            int nth = i;
            check.due(when + " change(" + i + ")", i < changes.size() ? changes.get(i) : -1, () -> x.change(nth));
        }
    }

    private static void slice(String when, KeyWalks x, int s, long least, int first, long[] through) {
        long next = Long.MAX_VALUE;
        for (int key = 0; key < 24; key++) {
            int at = key;
            check.due(when + " through " + key, through[key], () -> x.through(s, at));
            next = key == first ? next : Math.min(next, through[key]);
        }
        for (int slack : new int[] {0, 1, 7, 20, below(60), 1000, 100000}) {
            int bits = 0;
            for (int key = 0; key < 24; key++) {
                bits |= through[key] <= least + slack ? 1 << key : 0;
            }
            check.due(when + " near " + slack, bits, () -> x.near(s, slack));
        }
        check.due(when + " sure", next == 0 ? Check.ARITHMETIC : 100 * (next - least) / next, () -> x.sure(s));
    }
}
