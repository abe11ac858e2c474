/** The boundary cases that stand under 'Terms', a test for each sentence. */
public final class TermsBoundsTest {
    private static final Check check = new Check();
    private static final Bounds bounds = new Bounds(check);
    /** The major keys in the order of their places, and the minor key that shares each place. */
    private static final int[] MAJOR_RING = {0, 7, 2, 9, 4, 11, 6, 1, 8, 3, 10, 5};
    private static final int[] MINOR_RING = {21, 16, 23, 18, 13, 20, 15, 22, 17, 12, 19, 14};

    public static void main(String[] args) {
        slicesAndKeys();
        fitsAndTurns();
        walks();
        refusals();
        check.end();
    }

    private static void terms(String words, Runnable test) {
        check.sentence("Terms", words, test);
    }

    private static void slicesAndKeys() {
        terms("SLICES 0, 1, .., 40 at most", TermsBoundsTest::fortySlices);
        terms("give each PITCH a WEIGHT, 0 at first", TermsBoundsTest::weightAtFirst);
        terms("(a WEIGHT) at most 200", TermsBoundsTest::mostWeight);
        terms("KEYS are 0 .. 23", TermsBoundsTest::keys);
        terms("KEY k is of the TONIC k modulo 12 and of the MODE k / 12", TermsBoundsTest::tonicAndMode);
        terms("A PROFILE of a MODE gives each STEP 0 .. 11 a number 0 .. 99", TermsBoundsTest::stepsAndNumbers);
        terms("At first MAJOR has 5 for STEP 0, ..; MINOR ..", TermsBoundsTest::firstProfiles);
        terms("THE SCALE .. a number above 0 .. as it is then", TermsBoundsTest::scale);
    }

    private static void fitsAndTurns() {
        terms("the STEP (PITCH less TONIC, modulo 12)", TermsBoundsTest::stepModuloTwelve);
        terms("the greatest FIT that it has in any KEY, less its FIT", TermsBoundsTest::greatestFit);
        terms("THE PLACE of a KEY: 7 times its TONIC, modulo 12; of MINOR ..", TermsBoundsTest::places);
        terms("0 if they are the same", TermsBoundsTest::sameKey);
        terms("a ring of twelve (the shorter way round)", TermsBoundsTest::shorterWay);
        terms("and OVER, if their MODES differ", TermsBoundsTest::over);
        terms("BASE, BY, OVER are 10, 5, 2 at first", TermsBoundsTest::baseByOver);
    }

    private static void walks() {
        terms("that of all SLICES in their KEYS and of all TURNS", TermsBoundsTest::costOfAll);
        terms("by the KEY of SLICE 0, then by that of 1, and so on", TermsBoundsTest::order);
        terms("THE FIRST is the first BEST one in THE ORDER", TermsBoundsTest::first);
        terms("THROUGH .. the least COST of WALKS that give the SLICE that KEY", TermsBoundsTest::through);
        terms("THE NEXT .. another KEY than THE FIRST does", TermsBoundsTest::next);
    }

    private static void refusals() {
        terms("there is no such PITCH", TermsBoundsTest::noSuchPitch);
        terms("there is no such SLICE", TermsBoundsTest::noSuchSlice);
        terms("there is no such KEY", TermsBoundsTest::noSuchKey);
        terms("there is no such MODE, STEP", TermsBoundsTest::noSuchModeOrStep);
        terms("or a number is none told", TermsBoundsTest::noSuchNumber);
        terms("Of several the first one in this order", TermsBoundsTest::firstOfSeveral);
        terms("A call that throws changes nothing", TermsBoundsTest::throwsChangeNothing);
    }

    private static void fortySlices() {
        KeyWalks x = new KeyWalks();
        for (int s = 0; s < 40; s++) {
            check.due("slice", s, () -> x.slice());
        }
        check.state("slice of forty", () -> x.slice());
        check.due("of(0) of forty", 40, () -> x.of(0));
        check.due("note of slice 39", 1, () -> x.note(39, 0, 1));
        check.argument("note of slice 40", () -> x.note(40, 0, 1));
    }

    private static void weightAtFirst() {
        weightsAreNone("new", Pieces.silent(40), 0, 1, 39);
        KeyWalks dropped = Pieces.of("", heaviest());
        dropped.drop();
        dropped.slice();
        weightsAreNone("where one was dropped", dropped, 0, 1);
        KeyWalks cleared = Pieces.of(heaviest(), heaviest());
        cleared.clear();
        cleared.slice();
        cleared.slice();
        weightsAreNone("where all was cleared", cleared, 0, 1);
    }

    private static String heaviest() {
        return "0:200 1:200 2:200 3:200 4:200 5:200 6:200 7:200 8:200 9:200 10:200 11:200";
    }

    private static void weightsAreNone(String when, KeyWalks x, int... slices) {
        for (int s : slices) {
            for (int key = 0; key < 24; key += 23) {
                int at = key;
                check.due(when + " fit(" + s + ", " + key + ")", 0, () -> x.fit(s, at));
            }
            for (int pitch = 0; pitch < 12; pitch++) {
                int at = pitch;
                check.due(when + " note(" + s + ", " + pitch + ", 1)", 1, () -> x.note(s, at, 1));
            }
        }
    }

    private static void mostWeight() {
        KeyWalks x = Pieces.silent(1);
        for (int pitch = 0; pitch < 12; pitch++) {
            int at = pitch;
            check.due("199 of pitch " + pitch, 199, () -> x.note(0, at, 199));
            check.state("2 more of pitch " + pitch, () -> x.note(0, at, 2));
            check.due("1 more of pitch " + pitch, 200, () -> x.note(0, at, 1));
            check.state("1 above all of pitch " + pitch, () -> x.note(0, at, 1));
        }
    }

    private static void keys() {
        bounds.range("fit in key", 0, 23, Pieces::two, (x, k) -> x.fit(1, k));
        bounds.range("cost in key", 0, 23, Pieces::two, (x, k) -> x.cost(1, k));
        bounds.range("turn from key", 0, 23, Pieces::two, (x, k) -> x.turn(k, 5));
        bounds.range("turn to key", 0, 23, Pieces::two, (x, k) -> x.turn(5, k));
        bounds.range("through key", 0, 23, Pieces::two, (x, k) -> x.through(1, k));
        bounds.range("pivot, one key", 0, 23, Pieces::two, (x, k) -> x.pivot(1, k, 5));
        bounds.range("pivot, the other key", 0, 23, Pieces::two, (x, k) -> x.pivot(1, 5, k));
    }

    /** One slice for each pitch, with that pitch alone. */
    private static KeyWalks onePitchEach(int[] major, int[] minor) {
        KeyWalks x = new KeyWalks();
        Pieces.profiles(x, major, minor);
        for (int pitch = 0; pitch < 12; pitch++) {
            Pieces.add(x, pitch + ":1");
        }
        return x;
    }

    private static void tonicAndMode() {
        KeyWalks x = onePitchEach(Pieces.numbers(0, 99, 0), Pieces.numbers(0, 98, 0));
        for (int pitch = 0; pitch < 12; pitch++) {
            for (int tonic = 0; tonic < 12; tonic++) {
                int at = pitch;
                int major = tonic;
                int minor = 12 + tonic;
                check.due("pitch " + pitch + " in key " + major, pitch == tonic ? 99 : 0, () -> x.fit(at, major));
                check.due("pitch " + pitch + " in key " + minor, pitch == tonic ? 98 : 0, () -> x.fit(at, minor));
            }
        }
    }

    private static void stepsAndNumbers() {
        for (int mode = 0; mode < 2; mode++) {
            int in = mode;
            String what = mode == 0 ? "major" : "minor";
            bounds.range(what + " step", 0, 11, Pieces::two, (x, step) -> x.profile(in, step, 7));
            bounds.range(what + " number", 0, 99, Pieces::two, (x, number) -> x.profile(in, 11, number));
        }
    }

    private static void firstProfiles() {
        KeyWalks x = new KeyWalks();
        for (int step = 0; step < 12; step++) {
            int at = step;
            check.due("major " + step, Pieces.MAJOR[step], () -> x.profile(0, at, 0));
            check.due("minor " + step, Pieces.MINOR[step], () -> x.profile(1, at, 0));
        }
    }

    private static void scale() {
        // Pitch 6 is step 6 above C, which no mode has at first.
        KeyWalks x = Pieces.of("6:1");
        check.due("step 6 at first", false, () -> x.pivot(0, 0, 0));
        x.profile(0, 6, 1);
        check.due("step 6 with 1", true, () -> x.pivot(0, 0, 0));
        check.due("step 6 of minor with 0", false, () -> x.pivot(0, 12, 12));
        x.profile(1, 6, 99);
        check.due("step 6 of minor with 99", true, () -> x.pivot(0, 12, 12));
        x.profile(0, 6, 0);
        check.due("step 6 with 0 again", false, () -> x.pivot(0, 0, 0));
    }

    private static void stepModuloTwelve() {
        int[] major = {1, 2, 3, 4, 5, 6, 7, 8, 9, 10, 11, 12};
        int[] minor = {51, 52, 53, 54, 55, 56, 57, 58, 59, 60, 61, 62};
        KeyWalks x = onePitchEach(major, minor);
        for (int tonic = 0; tonic < 12; tonic++) {
            int pitch = tonic;
            for (int step = 0; step < 12; step++) {
                int at = pitch;
                int key = tonic;
                check.due("pitch " + at + " in key " + key, major[step], () -> x.fit(at, key));
                check.due("pitch " + at + " in key " + (12 + key), minor[step], () -> x.fit(at, 12 + key));
                pitch = pitch == 11 ? 0 : pitch + 1;
            }
        }
    }

    private static void greatestFit() {
        KeyWalks x = new KeyWalks();
        for (int key = 0; key < 24; key++) {
            Pieces.add(x, Pieces.chord(key));
        }
        for (int key = 0; key < 24; key++) {
            int at = key;
            check.due("the greatest in key " + key, 0, () -> x.cost(at, at));
            // The same tonic in the other mode lacks the third.
            check.due("the other mode of key " + key, 6, () -> x.cost(at, (at + 12) % 24));
        }
        check.due("no weights at all", 0, () -> Pieces.silent(1).cost(0, 23));
    }

    private static int placeOf(int key) {
        for (int place = 0; place < 12; place++) {
            if (MAJOR_RING[place] == key || MINOR_RING[place] == key) {
                return place;
            }
        }
        return -1;
    }

    private static void places() {
        for (int half = 0; half < 24; half += 12) {
            KeyWalks x = new KeyWalks();
            x.costs(500, 7, 100);
            for (int from = half; from < half + 12; from++) {
                for (int to = 0; to < 24; to++) {
                    int up = (placeOf(to) - placeOf(from) + 12) % 12;
                    int apart = up > 6 ? 12 - up : up;
                    int due = from == to ? 0 : 500 + 7 * apart + (from / 12 == to / 12 ? 0 : 100);
                    int one = from;
                    int other = to;
                    check.due("turn(" + from + ", " + to + ")", due, () -> x.turn(one, other));
                }
            }
        }
    }

    private static void sameKey() {
        KeyWalks x = new KeyWalks();
        x.costs(1000, 1000, 1000);
        for (int key = 0; key < 24; key++) {
            int at = key;
            check.due("turn(" + key + ", " + key + ")", 0, () -> x.turn(at, at));
        }
        check.due("the same tonic of the other mode", 5000, () -> x.turn(0, 12));
        check.due("the same place of the other mode", 2000, () -> x.turn(0, 21));
    }

    private static void shorterWay() {
        KeyWalks x = new KeyWalks();
        x.costs(0, 1, 0);
        int[] apart = {0, 1, 2, 3, 4, 5, 6, 5, 4, 3, 2, 1};
        for (int place = 0; place < 12; place++) {
            int major = MAJOR_RING[place];
            int minor = MINOR_RING[place];
            int due = apart[place];
            check.due("place 0 to " + place, due, () -> x.turn(0, major));
            check.due("place " + place + " to 0", due, () -> x.turn(major, 0));
            check.due("place 0 to minor " + place, due, () -> x.turn(0, minor));
            check.due("minor place " + place + " to 0", due, () -> x.turn(minor, 0));
            check.due("minor place 0 to minor " + place, due, () -> x.turn(21, minor));
            // From the last place the ring goes on at 0.
            int last = apart[(place + 1) % 12];
            check.due("place 11 to " + place, last, () -> x.turn(5, major));
            check.due("place " + place + " to 11", last, () -> x.turn(major, 5));
        }
    }

    private static void over() {
        KeyWalks x = new KeyWalks();
        x.costs(0, 0, 1000);
        check.due("major to major", 0, () -> x.turn(0, 11));
        check.due("minor to minor", 0, () -> x.turn(12, 23));
        check.due("major to minor", 1000, () -> x.turn(11, 12));
        check.due("minor to major", 1000, () -> x.turn(12, 11));
    }

    private static void baseByOver() {
        KeyWalks x = new KeyWalks();
        check.due("BASE", 10, () -> x.of(1));
        check.due("BY", 5, () -> x.of(2));
        check.due("OVER", 2, () -> x.of(3));
        check.due("all together", 10 + 6 * 5 + 2, () -> x.turn(0, 15));
    }

    private static void costOfAll() {
        // No turn is worth it. Pitches 0 and 6 lose 2 each in the keys that have both beside the tonic.
        KeyWalks x = Pieces.of("0:1", "", "6:1");
        x.costs(1000, 1000, 1000);
        check.due("slice 0 and the last one", 4, () -> x.least());
        check.due("one slice has no turn", 0, () -> Pieces.of("0:1").least());
        KeyWalks two = Pieces.forthAndBack(2);
        check.due("two slices have one", 8000, () -> two.least());
        KeyWalks forty = Pieces.forthAndBack(40);
        check.due("forty slices have 39", 39 * 8000, () -> forty.least());
    }

    private static void order() {
        KeyWalks x = Pieces.silent(3);
        x.costs(0, 0, 0);
        int[][] rows = {{0, 0, 0, 0}, {1, 0, 0, 1}, {23, 0, 0, 23}, {24, 0, 1, 0}, {575, 0, 23, 23}, {576, 1, 0, 0},
            {13823, 23, 23, 23}};
        for (int[] row : rows) {
            for (int s = 0; s < 3; s++) {
                int at = s;
                check.due("walk " + row[0] + ", slice " + s, row[1 + s], () -> x.pick(row[0], at));
            }
        }
    }

    private static void first() {
        KeyWalks silent = Pieces.silent(40);
        check.due("of 24 in slice 0", 0, () -> silent.key(0));
        check.due("of 24 in slice 39", 0, () -> silent.key(39));
        // Pitch 0 alone is as well in C minor; pitches 0 and 6 are together in keys 1, 7, 13, 16, 19, 22.
        check.due("of two", 0, () -> Pieces.of("0:1").key(0));
        KeyWalks six = Pieces.of("0:1", "6:1");
        check.due("of six, slice 0", 1, () -> six.key(0));
        check.due("of six, slice 1", 1, () -> six.key(1));
        for (int i = 0; i < 6; i++) {
            int at = i;
            check.due("of six, the walk " + i, new int[] {1, 7, 13, 16, 19, 22}[i], () -> six.pick(at, 1));
        }
        check.due("of six", 6L, () -> six.count());
    }

    private static void through() {
        KeyWalks one = Pieces.of("0:4 4:2 7:2");
        check.due("one slice, its best key", 0, () -> one.through(0, 0));
        check.due("one slice, another one", 4, () -> one.through(0, 7));
        KeyWalks x = Pieces.forthAndBack(3);
        check.due("a key of the best walk", 16000, () -> x.through(1, 15));
        // Slice 1 has pitches 3, 5, 6, of which C major has 3 alone; but two turns are saved.
        check.due("a key beside it", 2 * 19800, () -> x.through(1, 0));
    }

    private static void next() {
        // In C major alone for nothing, and 4 more in G major and in E minor.
        check.due("another key is dearer", 100, () -> Pieces.of("0:4 4:2 7:2").sure(0));
        // Six best walks: another key than that of the first one costs as much.
        check.due("another best walk has another key", 0, () -> Pieces.of("0:1", "6:1").sure(1));
        check.arithmetic("another key is for nothing", () -> Pieces.of("0:1").sure(0));
        for (int key = 0; key < 24; key++) {
            KeyWalks x = onlyNext(key);
            check.due("key " + key + " alone is the next", 40, () -> x.sure(1));
        }
    }

    /**
     * Slice 0 binds the walk to another key, in which slice 1 costs 297; its own key is a turn of 500 away, and all
     * others cost 99 more: 100 * 203 / 500.
     */
    private static KeyWalks onlyNext(int key) {
        KeyWalks x = new KeyWalks();
        Pieces.profiles(x, Pieces.numbers(0, 99, 0, 1, 3), Pieces.numbers(0, 99, 0, 2, 3));
        x.costs(500, 0, 0);
        int far = key + 6;
        Pieces.add(x, far % 12 + ":200 " + (far + 1) % 12 + ":200 " + (far + 3) % 12 + ":200");
        Pieces.add(x, key % 12 + ":1 " + (key + (key < 12 ? 1 : 2)) % 12 + ":1 " + (key + 3) % 12 + ":1");
        return x;
    }

    private static void noSuchPitch() {
        bounds.range("note of pitch", 0, 11, Pieces::two, (x, pitch) -> x.note(0, pitch, 1));
    }

    private static void noSuchSlice() {
        SliceCalls.all().forEach((what, call) -> {
            bounds.range(what, 0, 1, Pieces::two, call);
            bounds.range(what, 0, 39, () -> Pieces.forthAndBack(40), call);
            bounds.noneOf(what + " without slices:", KeyWalks::new, call, -1, 0, 1);
        });
        bounds.range("whole from slice", 0, 1, Pieces::two, (x, s) -> x.whole(s, 1));
        bounds.range("whole to slice", 0, 1, Pieces::two, (x, s) -> x.whole(0, s));
    }

    private static void noSuchKey() {
        // The last key of the ring of 24 does not come round again, nor does the tonic.
        bounds.noneOf("fit in key", Pieces::two, (x, k) -> x.fit(0, k), -24, -12, -1, 24, 36, 48);
        bounds.noneOf("turn from and to key", Pieces::two, (x, k) -> x.turn(k, k), -24, -12, -1, 24, 36, 48);
    }

    private static void noSuchModeOrStep() {
        bounds.range("mode", 0, 1, Pieces::two, (x, mode) -> x.profile(mode, 0, 1));
        bounds.range("step", 0, 11, Pieces::two, (x, step) -> x.profile(0, step, 1));
        bounds.noneOf("step, round again", Pieces::two, (x, step) -> x.profile(0, step, 1), -12, 12, 23, 24);
        bounds.noneOf("mode and step, together a number that is held", Pieces::two,
            (x, n) -> x.profile(n, n < 0 ? 23 : -12, 1), -1, 2);
    }

    private static void noSuchNumber() {
        bounds.range("of", 0, 4, Pieces::two, (x, what) -> x.of(what));
        bounds.range("number", 0, 99, Pieces::two, (x, number) -> x.profile(0, 0, number));
        bounds.range("weight", 1, 200, () -> Pieces.silent(1), (x, weight) -> x.note(0, 0, weight));
        bounds.range("slack", 0, 100000, Pieces::two, (x, slack) -> x.near(0, slack));
    }

    private static void firstOfSeveral() {
        KeyWalks full = Pieces.of("0:200");
        check.state("a full pitch", () -> full.note(0, 0, 1));
        check.argument("a full pitch and no such weight", () -> full.note(0, 0, 201));
        check.argument("a full pitch and no weight", () -> full.note(0, 0, 0));
        check.argument("no such slice and a great weight", () -> full.note(1, 0, 200));
        check.argument("no such pitch and a great weight", () -> full.note(0, 12, 200));
        KeyWalks silent = Pieces.silent(1);
        check.arithmetic("a next of 0", () -> silent.sure(0));
        check.argument("a next of 0 and no such slice", () -> silent.sure(1));
        check.argument("a next of 0 and a slice below 0", () -> silent.sure(-1));
    }

    private static void throwsChangeNothing() {
        bounds.refused("profile", Check.ARGUMENT, Pieces::two, x -> x.profile(1, 11, 100));
        bounds.refused("costs", Check.ARGUMENT, Pieces::two, x -> x.costs(1, 1, 1001));
        bounds.refused("slice", Check.STATE, Pieces::full, x -> x.slice());
        bounds.refused("note of none", Check.ARGUMENT, Pieces::two, x -> x.note(0, 0, 0));
        bounds.refused("note of a full one", Check.STATE, Pieces::full, x -> x.note(39, 11, 1));
        bounds.refused("drop", Check.STATE, KeyWalks::new, x -> x.drop());
        bounds.refused("fit", Check.ARGUMENT, Pieces::two, x -> x.fit(2, 0));
        bounds.refused("cost", Check.ARGUMENT, Pieces::two, x -> x.cost(0, 24));
        bounds.refused("turn", Check.ARGUMENT, Pieces::two, x -> x.turn(24, 24));
        bounds.refused("key", Check.ARGUMENT, Pieces::two, x -> x.key(2));
        bounds.refused("pick", Check.ARGUMENT, Pieces::two, x -> x.pick(1000000000000000000L, 0));
        bounds.refused("through", Check.ARGUMENT, Pieces::two, x -> x.through(2, 0));
        bounds.refused("near", Check.ARGUMENT, Pieces::two, x -> x.near(0, 100001));
        bounds.refused("sure of none", Check.ARGUMENT, Pieces::two, x -> x.sure(2));
        bounds.refused("sure, the next is 0", Check.ARITHMETIC, () -> Pieces.silent(40), x -> x.sure(39));
        bounds.refused("change", Check.ARGUMENT, Pieces::two, x -> x.change(-1));
        bounds.refused("pivot", Check.ARGUMENT, Pieces::two, x -> x.pivot(0, 0, 24));
        bounds.refused("whole", Check.ARGUMENT, Pieces::two, x -> x.whole(1, 0));
        bounds.refused("of", Check.ARGUMENT, Pieces::two, x -> x.of(5));
    }
}
