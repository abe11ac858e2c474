/** Long runs of calls, right and wrong ones mixed, on an object and on the model side by side. */
public final class ModelTest {
    /** As many as the document lets an object be used for. */
    private static final int CALLS = 512;
    private static final Check check = new Check();
    private static long seed = 4711L;

    private static int below(int bound) {
        seed = seed * 6364136223846793005L + 1442695040888963407L;
        return (int) ((seed >>> 33) % bound);
    }

    public static void main(String[] args) {
        for (int run = 0; run < 40; run++) {
            mixedRun("run " + run, 1 + run % 6, run % 4);
        }
        for (int run = 0; run < 6; run++) {
            longPiece("long piece " + run, run);
        }
        heaviestPiece();
        check.end();
    }

    /** A number from low to high, or now and then one just outside or far outside. */
    private static int some(int low, int high) {
        int dice = below(60);
        if (dice == 0) {
            return low - 1;
        }
        if (dice == 1) {
            return high + 1;
        }
        if (dice == 2) {
            return below(2) == 0 ? Integer.MIN_VALUE : Integer.MAX_VALUE;
        }
        return low + below(high - low + 1);
    }

    private static int someTurnNumber(int style) {
        return style == 0 ? some(0, 1000) : style == 1 ? some(0, 3) : some(0, 20);
    }

    private static void mixedRun(String name, int most, int style) {
        KeyWalks x = new KeyWalks();
        Model m = new Model();
        for (int call = 0; call < CALLS; call++) {
            String when = name + " call " + call + ":";
            int n = m.of(0);
            int kind = below(40);
            if (kind == 0 && below(4) == 0) {
                check.due(when + " clear", Check.told(() -> m.clear()), () -> x.clear());
            } else if (kind <= 2) {
                changeNumbers(when, x, m, style);
            } else if (kind <= 5) {
                changeSlices(when, x, m, n < most);
            } else if (kind <= 16) {
                addNote(when, x, m, n, style);
            } else if (kind <= 25) {
                askPlain(when, x, m, n);
            } else {
                askWalks(when, x, m, n);
            }
        }
    }

    private static void changeNumbers(String when, KeyWalks x, Model m, int style) {
        if (below(2) == 0) {
            int mode = some(0, 1);
            int step = some(0, 11);
            int number = style == 0 ? some(0, 99) : some(0, 5);
            String told = when + " profile(" + mode + ", " + step + ", " + number + ")";
            check.due(told, Check.told(() -> m.profile(mode, step, number)), () -> x.profile(mode, step, number));
        } else {
            int base = someTurnNumber(style);
            int by = someTurnNumber(style);
            int over = someTurnNumber(style);
            String told = when + " costs(" + base + ", " + by + ", " + over + ")";
            check.due(told, Check.told(() -> m.costs(base, by, over)), () -> x.costs(base, by, over));
        }
    }

    private static void changeSlices(String when, KeyWalks x, Model m, boolean room) {
        if (room && below(4) != 0) {
            check.due(when + " slice", Check.told(() -> m.slice()), () -> x.slice());
        } else {
            check.due(when + " drop", Check.told(() -> m.drop()), () -> x.drop());
        }
    }

    private static void addNote(String when, KeyWalks x, Model m, int n, int style) {
        int slice = some(0, Math.max(0, n - 1));
        int pitch = some(0, 11);
        int weight = style == 0 ? some(1, 200) : some(1, 8);
        String told = when + " note(" + slice + ", " + pitch + ", " + weight + ")";
        check.due(told, Check.told(() -> m.note(slice, pitch, weight)), () -> x.note(slice, pitch, weight));
    }

    private static void askPlain(String when, KeyWalks x, Model m, int n) {
        int slice = some(0, Math.max(0, n - 1));
        int last = some(0, Math.max(0, n - 1));
        int one = some(0, 23);
        int other = some(0, 23);
        int what = some(0, 4);
        switch (below(6)) {
            case 0:
                check.due(when + " fit", Check.told(() -> m.fit(slice, one)), () -> x.fit(slice, one));
                break;
            case 1:
                check.due(when + " cost", Check.told(() -> m.cost(slice, one)), () -> x.cost(slice, one));
                break;
            case 2:
                check.due(when + " turn", Check.told(() -> m.turn(one, other)), () -> x.turn(one, other));
                break;
            case 3:
                String pivot = Check.told(() -> m.pivot(slice, one, other));
                check.due(when + " pivot", pivot, () -> x.pivot(slice, one, other));
                break;
            case 4:
                check.due(when + " whole", Check.told(() -> m.whole(slice, last)), () -> x.whole(slice, last));
                break;
            default:
                check.due(when + " of", Check.told(() -> m.of(what)), () -> x.of(what));
                break;
        }
    }

    private static void askWalks(String when, KeyWalks x, Model m, int n) {
        int slice = some(0, Math.max(0, n - 1));
        int key = some(0, 23);
        int slack = below(2) == 0 ? some(0, 30) : some(0, 100000);
        int nth = some(0, 4);
        long i = someWalk(m.count());
        switch (below(8)) {
            case 0:
                check.due(when + " least", Check.told(() -> m.least()), () -> x.least());
                break;
            case 1:
                check.due(when + " key", Check.told(() -> m.key(slice)), () -> x.key(slice));
                break;
            case 2:
                check.due(when + " count", Check.told(() -> m.count()), () -> x.count());
                break;
            case 3:
                check.due(when + " pick " + i, Check.told(() -> m.pick(i, slice)), () -> x.pick(i, slice));
                break;
            case 4:
                check.due(when + " through", Check.told(() -> m.through(slice, key)), () -> x.through(slice, key));
                break;
            case 5:
                check.due(when + " near", Check.told(() -> m.near(slice, slack)), () -> x.near(slice, slack));
                break;
            case 6:
                check.due(when + " sure", Check.told(() -> m.sure(slice)), () -> x.sure(slice));
                break;
            default:
                check.due(when + " change", Check.told(() -> m.change(nth)), () -> x.change(nth));
                break;
        }
    }

    /** Mostly a walk that is there, else the one behind the last, or none at all. */
    private static long someWalk(long count) {
        int dice = below(12);
        if (dice == 0) {
            return count;
        }
        if (dice == 1) {
            return below(2) == 0 ? -1 : 1000000000000000000L;
        }
        return Math.floorMod(((long) below(1 << 30) << 30) + below(1 << 30), count);
    }

    private static void longPiece(String name, int style) {
        KeyWalks x = new KeyWalks();
        Model m = new Model();
        int n = style % 2 == 0 ? 40 : 20;
        for (int s = 0; s < n; s++) {
            m.slice();
            x.slice();
            for (int notes = below(4); notes > 0; notes--) {
                addNote(name, x, m, s + 1, 1 + style);
            }
        }
        if (style >= 2) {
            int base = below(3);
            m.costs(base, style % 3, 0);
            x.costs(base, style % 3, 0);
        }
        check.due(name + " least", m.least(), () -> x.least());
        check.due(name + " count", m.count(), () -> x.count());
        check.due(name + " of(4)", m.of(4), () -> x.of(4));
        for (int s = 0; s < n; s++) {
            int at = s;
            check.due(name + " key(" + s + ")", m.key(s), () -> x.key(at));
            check.due(name + " change(" + s + ")", m.change(s), () -> x.change(at));
        }
        for (int s = 0; s < n; s += 7) {
            int at = s;
            check.due(name + " through", m.through(s, 9), () -> x.through(at, 9));
            check.due(name + " near", m.near(s, 12), () -> x.near(at, 12));
            check.due(name + " sure", Check.told(() -> m.sure(at)), () -> x.sure(at));
        }
        long far = x.count() - 1;
        check.due(name + " pick of the last", m.pick(far, n - 1), () -> x.pick(far, n - 1));
        check.due(name + " pick of the middle", m.pick(far / 2, n - 1), () -> x.pick(far / 2, n - 1));
    }

    /** The greatest numbers that the document leaves, where a sum or product might run over. */
    private static void heaviestPiece() {
        KeyWalks x = new KeyWalks();
        Model m = new Model();
        for (int mode = 0; mode < 2; mode++) {
            for (int step = 0; step < 12; step++) {
                int number = step % 2 == 0 ? 99 : 0;
                m.profile(mode, step, number);
                x.profile(mode, step, number);
            }
        }
        m.costs(1000, 1000, 1000);
        x.costs(1000, 1000, 1000);
        for (int s = 0; s < 40; s++) {
            m.slice();
            x.slice();
            for (int pitch = s % 2; pitch < 12; pitch += 2) {
                m.note(s, pitch, 200);
                x.note(s, pitch, 200);
            }
        }
        check.due("heaviest least", m.least(), () -> x.least());
        check.due("heaviest count", m.count(), () -> x.count());
        for (int s = 0; s < 40; s += 13) {
            int at = s;
            check.due("heaviest key", m.key(s), () -> x.key(at));
            check.due("heaviest sure", Check.told(() -> m.sure(at)), () -> x.sure(at));
            check.due("heaviest near", m.near(s, 100000), () -> x.near(at, 100000));
            check.due("heaviest through", m.through(s, 5), () -> x.through(at, 5));
        }
        check.due("heaviest whole", m.whole(0, 39), () -> x.whole(0, 39));
    }
}
