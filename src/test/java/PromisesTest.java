/** Each promise by numbers worked out by hand from the document: ordinary inputs, edges and wrong inputs. */
public final class PromisesTest {
    private static final int LOW = Integer.MIN_VALUE;
    private static final int HIGH = Integer.MAX_VALUE;
    private static final int[] MAJOR = {5, 0, 3, 0, 3, 3, 0, 3, 0, 3, 0, 3};
    private static final int[] MINOR = {5, 0, 3, 3, 0, 3, 0, 3, 3, 0, 0, 3};
    private static final Check check = new Check();

    public static void main(String[] args) {
        newObject();
        clear();
        profile();
        costs();
        slice();
        note();
        drop();
        fit();
        cost();
        turn();
        least();
        key();
        count();
        pick();
        through();
        near();
        sure();
        change();
        pivot();
        whole();
        of();
        check.end();
    }

    /** The numbers of the profiles, read by setting each to what it was. */
    private static void profilesAre(String when, KeyWalks x, int[] major, int[] minor) {
        for (int step = 0; step < 12; step++) {
            int at = step;
            check.due(when + " major " + step, major[step], () -> x.profile(0, at, major[at]));
            check.due(when + " minor " + step, minor[step], () -> x.profile(1, at, minor[at]));
        }
    }

    private static void numbersAre(String when, KeyWalks x, int slices, int base, int by, int over) {
        check.due(when + " of(0)", slices, () -> x.of(0));
        check.due(when + " of(1)", base, () -> x.of(1));
        check.due(when + " of(2)", by, () -> x.of(2));
        check.due(when + " of(3)", over, () -> x.of(3));
    }

    private static void isNew(String when, KeyWalks x) {
        numbersAre(when, x, 0, 10, 5, 2);
        check.due(when + " of(4)", 0, () -> x.of(4));
        check.due(when + " least", 0, () -> x.least());
        check.due(when + " count", 1L, () -> x.count());
        check.due(when + " change(0)", -1, () -> x.change(0));
        check.argument(when + " key(0)", () -> x.key(0));
        check.state(when + " drop", () -> x.drop());
        profilesAre(when, x, MAJOR, MINOR);
    }

    private static void newObject() {
        isNew("1 new:", new KeyWalks());
        KeyWalks x = Pieces.silent(3);
        x.profile(0, 0, 99);
        x.costs(1, 2, 3);
        isNew("1 new beside another one:", new KeyWalks());
        numbersAre("1 the other one:", x, 3, 1, 2, 3);
    }

    private static void clear() {
        KeyWalks x = new KeyWalks();
        check.due("2 clear of nothing", 0, () -> x.clear());
        x.slice();
        x.slice();
        x.note(1, 4, 77);
        for (int step = 0; step < 12; step++) {
            x.profile(0, step, 90 + step % 9);
            x.profile(1, step, 50 + step);
        }
        x.costs(7, 8, 9);
        x.least();
        check.due("2 clear of two", 2, () -> x.clear());
        isNew("2 cleared:", x);
        x.slice();
        x.slice();
        check.due("2 no weight is left", 0, () -> x.fit(1, 4));
        check.due("2 note begins at 0", 5, () -> x.note(1, 4, 5));
        check.due("2 clear again", 2, () -> x.clear());
        KeyWalks full = Pieces.silent(40);
        check.due("2 clear of forty", 40, () -> full.clear());
        check.due("2 slice after forty", 0, () -> full.slice());
    }

    private static void profile() {
        KeyWalks x = Pieces.silent(1);
        x.note(0, 0, 10);
        check.due("3 profile(0, 0, 7)", 5, () -> x.profile(0, 0, 7));
        check.due("3 profile is heard", 70, () -> x.fit(0, 0));
        check.due("3 the other mode is not", 50, () -> x.fit(0, 12));
        check.due("3 profile(0, 0, 0)", 7, () -> x.profile(0, 0, 0));
        check.due("3 profile(0, 0, 99)", 0, () -> x.profile(0, 0, 99));
        check.due("3 profile(1, 11, 99)", 3, () -> x.profile(1, 11, 99));
        check.due("3 step 11 is a pitch below", 990, () -> x.fit(0, 13));
        for (int bad : new int[] {LOW, -1, 2, 12, HIGH}) {
            check.argument("3 mode " + bad, () -> x.profile(bad, 0, 1));
        }
        for (int bad : new int[] {LOW, -1, 12, 24, HIGH}) {
            check.argument("3 step " + bad, () -> x.profile(1, bad, 1));
        }
        for (int bad : new int[] {LOW, -1, 100, HIGH}) {
            check.argument("3 number " + bad, () -> x.profile(0, 0, bad));
        }
        check.due("3 a throw changed nothing", 99, () -> x.profile(0, 0, 99));
        check.due("3 nor the other mode", 5, () -> x.profile(1, 0, 5));
        // A change of a profile is heard by what was asked before it.
        KeyWalks y = Pieces.of("0:1");
        check.due("3 key before", 0, () -> y.key(0));
        y.profile(0, 0, 1);
        check.due("3 key behind", 12, () -> y.key(0));
    }

    private static void costs() {
        KeyWalks x = new KeyWalks();
        check.due("4 the same", 0, () -> x.costs(10, 5, 2));
        check.due("4 base alone", 1, () -> x.costs(11, 5, 2));
        check.due("4 by alone", 1, () -> x.costs(11, 6, 2));
        check.due("4 over alone", 1, () -> x.costs(11, 6, 3));
        check.due("4 two", 2, () -> x.costs(11, 5, 2));
        check.due("4 all, lowest", 3, () -> x.costs(0, 0, 0));
        check.due("4 all, highest", 3, () -> x.costs(1000, 1000, 1000));
        numbersAre("4 highest:", x, 0, 1000, 1000, 1000);
        for (int bad : new int[] {LOW, -1, 1001, HIGH}) {
            check.argument("4 base " + bad, () -> x.costs(bad, 1, 1));
            check.argument("4 by " + bad, () -> x.costs(1, bad, 1));
            check.argument("4 over " + bad, () -> x.costs(1, 1, bad));
        }
        numbersAre("4 a throw changed nothing:", x, 0, 1000, 1000, 1000);
        KeyWalks y = Pieces.silent(2);
        check.due("4 count before", 24L, () -> y.count());
        y.costs(0, 0, 0);
        check.due("4 count behind", 576L, () -> y.count());
    }

    private static void slice() {
        KeyWalks x = new KeyWalks();
        for (int s = 0; s < 40; s++) {
            check.due("5 slice " + s, s, () -> x.slice());
        }
        check.state("5 slice 40", () -> x.slice());
        check.due("5 a throw changed nothing", 40, () -> x.of(0));
        check.due("5 slice 39 is there", 1, () -> x.note(39, 0, 1));
        check.argument("5 slice 40 is not", () -> x.note(40, 0, 1));
        x.note(39, 7, 200);
        x.drop();
        check.due("5 slice 39 again", 39, () -> x.slice());
        check.due("5 without old weights", 0, () -> x.fit(39, 7));
        check.state("5 slice 40 again", () -> x.slice());
        KeyWalks y = new KeyWalks();
        check.due("5 count before", 1L, () -> y.count());
        y.slice();
        check.due("5 count behind", 24L, () -> y.count());
    }

    private static void note() {
        KeyWalks x = Pieces.silent(2);
        check.due("6 note", 1, () -> x.note(0, 0, 1));
        check.due("6 more of it", 120, () -> x.note(0, 0, 119));
        check.due("6 another pitch", 80, () -> x.note(0, 11, 80));
        check.due("6 another slice", 200, () -> x.note(1, 0, 200));
        check.state("6 one too many", () -> x.note(1, 0, 1));
        check.state("6 200 too many", () -> x.note(1, 0, 200));
        check.state("6 81 too many", () -> x.note(0, 0, 81));
        check.due("6 a throw changed nothing", 200, () -> x.note(0, 0, 80));
        for (int bad : new int[] {LOW, -1, 2, 40, HIGH}) {
            check.argument("6 slice " + bad, () -> x.note(bad, 0, 1));
        }
        for (int bad : new int[] {LOW, -1, 12, HIGH}) {
            check.argument("6 pitch " + bad, () -> x.note(1, bad, 1));
        }
        for (int bad : new int[] {LOW, -1, 0, 201, HIGH}) {
            check.argument("6 weight " + bad, () -> x.note(1, 1, bad));
            check.argument("6 weight " + bad + " of a full one", () -> x.note(1, 0, bad));
        }
        check.due("6 wrong weights changed nothing", 3, () -> x.note(1, 1, 3));
        check.argument("6 no slice at all", () -> new KeyWalks().note(0, 0, 1));
        KeyWalks y = Pieces.silent(1);
        check.due("6 count before", 24L, () -> y.count());
        y.note(0, 0, 1);
        check.due("6 count behind", 2L, () -> y.count());
    }

    private static void drop() {
        KeyWalks x = Pieces.of("0:9", "6:200", "1:200");
        // C minor is three places from F sharp major: 27; C sharp major is one place on: 15.
        check.due("7 least of three", 42, () -> x.least());
        check.due("7 drop", 2, () -> x.drop());
        check.argument("7 slice 2 is gone", () -> x.fit(2, 0));
        check.due("7 least of two", 27, () -> x.least());
        check.due("7 weights are left", 1000, () -> x.fit(1, 6));
        check.due("7 drop", 1, () -> x.drop());
        check.due("7 drop", 0, () -> x.drop());
        check.state("7 none is left", () -> x.drop());
        check.due("7 a throw changed nothing", 0, () -> x.of(0));
        check.state("7 of nothing", () -> new KeyWalks().drop());
    }

    private static void fit() {
        KeyWalks x = Pieces.of("0:4 4:2 7:2", "");
        check.due("8 C major", 32, () -> x.fit(0, 0));
        check.due("8 A minor", 18, () -> x.fit(0, 21));
        check.due("8 E minor", 28, () -> x.fit(0, 16));
        check.due("8 B minor", 12, () -> x.fit(0, 11 + 12));
        check.due("8 F sharp major", 0, () -> x.fit(0, 6));
        check.due("8 a silent slice", 0, () -> x.fit(1, 23));
        KeyWalks most = Pieces.silent(1);
        for (int pitch = 0; pitch < 12; pitch++) {
            most.note(0, pitch, 200);
            most.profile(0, pitch, 99);
        }
        check.due("8 the greatest", 237600, () -> most.fit(0, 11));
        check.due("8 beside it", 4600, () -> most.fit(0, 12));
        wrongSliceOrKey("8 fit", x, 2, (slice, key) -> x.fit(slice, key));
    }

    private interface Two {
        Object answer(int one, int other);
    }

    private static void wrongSliceOrKey(String what, KeyWalks x, int slices, Two call) {
        for (int bad : new int[] {LOW, -1, slices, 40, HIGH}) {
            check.argument(what + " slice " + bad, () -> call.answer(bad, 0));
        }
        for (int bad : new int[] {LOW, -1, 24, HIGH}) {
            check.argument(what + " key " + bad, () -> call.answer(slices - 1, bad));
        }
        check.due(what + ": a throw changed nothing", slices, () -> x.of(0));
    }

    private static void cost() {
        KeyWalks x = Pieces.of("0:4 4:2 7:2", "");
        check.due("9 the best key", 0, () -> x.cost(0, 0));
        check.due("9 G major", 4, () -> x.cost(0, 7));
        check.due("9 A minor", 14, () -> x.cost(0, 21));
        check.due("9 a silent slice", 0, () -> x.cost(1, 23));
        x.profile(0, 0, 0);
        check.due("9 the greatest fit in minor", 0, () -> x.cost(0, 16));
        check.due("9 C minor then", 2, () -> x.cost(0, 12));
        check.due("9 C major then", 16, () -> x.cost(0, 0));
        wrongSliceOrKey("9 cost", x, 2, (slice, key) -> x.cost(slice, key));
    }

    private static void turn() {
        KeyWalks x = new KeyWalks();
        int[] placesFromC = {0, 5, 2, 3, 4, 1, 6, 1, 4, 3, 2, 5};
        for (int to = 0; to < 12; to++) {
            int at = to;
            int major = to == 0 ? 0 : 10 + 5 * placesFromC[to];
            check.due("10 C major to major " + to, major, () -> x.turn(0, at));
            check.due("10 major " + to + " to C major", major, () -> x.turn(at, 0));
            int minor = 10 + 5 * placesFromC[(to + 3) % 12] + 2;
            check.due("10 C major to minor " + to, minor, () -> x.turn(0, 12 + at));
            check.due("10 minor " + to + " to C major", minor, () -> x.turn(12 + at, 0));
        }
        for (int key = 0; key < 24; key++) {
            int at = key;
            check.due("10 a key to itself " + key, 0, () -> x.turn(at, at));
        }
        check.due("10 A minor to E minor", 15, () -> x.turn(21, 16));
        x.costs(1000, 1000, 1000);
        check.due("10 the dearest", 8000, () -> x.turn(0, 15));
        check.due("10 still nothing", 0, () -> x.turn(15, 15));
        x.costs(0, 0, 7);
        check.due("10 over alone", 7, () -> x.turn(5, 17));
        check.due("10 none of it", 0, () -> x.turn(5, 6));
        for (int bad : new int[] {LOW, -1, 24, HIGH}) {
            check.argument("10 from " + bad, () -> x.turn(bad, 0));
            check.argument("10 to " + bad, () -> x.turn(0, bad));
            check.argument("10 both " + bad, () -> x.turn(bad, bad));
        }
    }

    private static void least() {
        check.due("11 no slices", 0, () -> new KeyWalks().least());
        check.due("11 silent ones", 0, () -> Pieces.silent(40).least());
        check.due("11 one slice", 0, () -> Pieces.of("0:200").least());
        KeyWalks x = Pieces.fromCToFSharp();
        check.due("11 two turns of 40", 80, () -> x.least());
        x.costs(10, 5, 1000);
        check.due("11 without a change of mode", 80, () -> x.least());
        x.costs(0, 0, 0);
        check.due("11 turns for nothing", 0, () -> x.least());
        KeyWalks most = Pieces.silent(40);
        for (int s = 0; s < 40; s++) {
            most.note(s, s % 2 == 0 ? 0 : 6, 200);
        }
        most.costs(1000, 1000, 1000);
        // G major has both pitches beside its tonic, so each slice costs 400 there, and no turn is worth it.
        check.due("11 forty slices", 16000, () -> most.least());
    }

    private static void key() {
        KeyWalks x = Pieces.fromCToFSharp();
        int[] keys = {0, 0, 6, 6, 0};
        for (int s = 0; s < 5; s++) {
            int at = s;
            check.due("12 key(" + s + ")", keys[s], () -> x.key(at));
        }
        check.due("12 of several the first", 0, () -> Pieces.silent(3).key(2));
        KeyWalks free = Pieces.of("0:1", "5:1");
        free.costs(0, 0, 0);
        check.due("12 major ahead of minor", 0, () -> free.key(0));
        check.due("12 in the last slice too", 5, () -> free.key(1));
        for (int bad : new int[] {LOW, -1, 5, 40, HIGH}) {
            check.argument("12 slice " + bad, () -> x.key(bad));
        }
        check.argument("12 no slices", () -> new KeyWalks().key(0));
    }

    private static void count() {
        check.due("13 no slices", 1L, () -> new KeyWalks().count());
        check.due("13 silent ones", 24L, () -> Pieces.silent(40).count());
        KeyWalks x = new KeyWalks();
        x.costs(0, 0, 0);
        long many = 1;
        for (int n = 1; n <= 40; n++) {
            x.slice();
            many = n <= 13 ? many * 24 : 1000000000000000000L;
            check.due("13 free turns of " + n, many, () -> x.count());
        }
        // Turns cost nothing between the two keys of one place: twelve places, two keys in each slice.
        KeyWalks pairs = Pieces.silent(40);
        pairs.costs(0, 1, 0);
        check.due("13 two keys a place", 12L << 40, () -> pairs.count());
        check.due("13 one walk", 1L, () -> Pieces.fromCToFSharp().count());
    }

    private static void pick() {
        KeyWalks x = Pieces.silent(2);
        x.costs(0, 0, 0);
        for (int i = 0; i < 576; i += 5) {
            int at = i;
            check.due("14 pick(" + i + ", 0)", i / 24, () -> x.pick(at, 0));
            check.due("14 pick(" + i + ", 1)", i % 24, () -> x.pick(at, 1));
        }
        check.due("14 the last", 23, () -> x.pick(575, 0));
        check.due("14 one more", -1, () -> x.pick(576, 0));
        check.due("14 one more, slice 1", -1, () -> x.pick(576, 1));
        KeyWalks full = Pieces.silent(40);
        full.costs(0, 0, 0);
        long rest = 999999999999999999L;
        for (int s = 39; s >= 0; s--) {
            int at = s;
            check.due("14 far walk, slice " + s, rest % 24, () -> full.pick(999999999999999999L, at));
            rest /= 24;
        }
        KeyWalks thirteen = Pieces.silent(13);
        thirteen.costs(0, 0, 0);
        check.due("14 the last of 24^13", 23, () -> thirteen.pick(876488338465357823L, 0));
        check.due("14 one more than 24^13", -1, () -> thirteen.pick(876488338465357824L, 0));
        KeyWalks one = Pieces.fromCToFSharp();
        check.due("14 the only one", 6, () -> one.pick(0, 3));
        check.due("14 no second one", -1, () -> one.pick(1, 3));
        for (long bad : new long[] {Long.MIN_VALUE, -1, 1000000000000000000L, Long.MAX_VALUE}) {
            check.argument("14 i " + bad, () -> full.pick(bad, 0));
        }
        for (int bad : new int[] {LOW, -1, 2, 40, HIGH}) {
            check.argument("14 slice " + bad, () -> x.pick(0, bad));
            check.argument("14 slice " + bad + ", not so many", () -> x.pick(576, bad));
        }
        check.argument("14 no slices", () -> new KeyWalks().pick(0, 0));
    }

    private static void through() {
        KeyWalks x = Pieces.fromCToFSharp();
        check.due("15 a best one", 80, () -> x.through(2, 6));
        check.due("15 another best one", 80, () -> x.through(4, 0));
        KeyWalks one = Pieces.of("0:4 4:2 7:2");
        for (int key = 0; key < 24; key++) {
            int at = key;
            check.due("15 of one slice " + key, one.cost(0, key), () -> one.through(0, at));
        }
        KeyWalks silent = Pieces.silent(3);
        check.due("15 silent slices", 0, () -> silent.through(1, 17));
        KeyWalks two = Pieces.of("0:200", "");
        // Slice 0 is for nothing in C major and in C minor, whose place is three from that of C major.
        check.due("15 the turn behind", 12, () -> two.through(1, 21));
        check.due("15 the turn from the nearer one", 27, () -> two.through(1, 6));
        wrongSliceOrKey("15 through", x, 5, (slice, key) -> x.through(slice, key));
        check.argument("15 no slices", () -> new KeyWalks().through(0, 0));
    }

    private static void near() {
        KeyWalks x = Pieces.of("0:200", "");
        check.due("16 slack 0", 1 << 0 | 1 << 12, () -> x.near(0, 0));
        // Behind C major or C minor: the same key, the turn of 12 to the other key of its place, 15 to the next ones.
        check.due("16 slack 11, slice 1", 1 << 0 | 1 << 12, () -> x.near(1, 11));
        int twelve = 1 << 0 | 1 << 12 | 1 << 21 | 1 << 3;
        check.due("16 slack 12, slice 1", twelve, () -> x.near(1, 12));
        check.due("16 slack 14, slice 1", twelve, () -> x.near(1, 14));
        int fifteen = twelve | 1 << 7 | 1 << 5 | 1 << 19 | 1 << 17;
        check.due("16 slack 15, slice 1", fifteen, () -> x.near(1, 15));
        check.due("16 all keys", 0xffffff, () -> x.near(0, 100000));
        check.due("16 silent slices", 0xffffff, () -> Pieces.silent(2).near(1, 0));
        for (int bad : new int[] {LOW, -1, 100001, HIGH}) {
            check.argument("16 slack " + bad, () -> x.near(0, bad));
        }
        for (int bad : new int[] {LOW, -1, 2, 40, HIGH}) {
            check.argument("16 slice " + bad, () -> x.near(bad, 0));
        }
        check.argument("16 no slices", () -> new KeyWalks().near(0, 0));
    }

    private static void sure() {
        KeyWalks x = Pieces.of("0:4 4:2 7:2");
        check.due("17 the least is 0", 100, () -> x.sure(0));
        KeyWalks three = Pieces.of("0:4 4:2 7:2", "7:3 11:2 2:2", "2:4 6:4 9:3");
        check.due("17 cut", 36, () -> three.sure(2));
        check.due("17 two best ones", 0, () -> Pieces.of("0:9", "6:9").sure(0));
        check.arithmetic("17 the next is 0", () -> Pieces.silent(2).sure(1));
        check.arithmetic("17 the other mode too", () -> Pieces.of("3:200").sure(0));
        for (int bad : new int[] {LOW, -1, 3, 40, HIGH}) {
            check.argument("17 slice " + bad, () -> three.sure(bad));
        }
        check.argument("17 argument ahead of arithmetic", () -> Pieces.silent(2).sure(2));
        check.argument("17 no slices", () -> new KeyWalks().sure(0));
    }

    private static void change() {
        KeyWalks x = Pieces.fromCToFSharp();
        check.due("18 the first", 2, () -> x.change(0));
        check.due("18 the second", 4, () -> x.change(1));
        check.due("18 no third", -1, () -> x.change(2));
        check.due("18 far off", -1, () -> x.change(HIGH));
        check.due("18 one slice", -1, () -> Pieces.silent(1).change(0));
        check.due("18 no slices", -1, () -> new KeyWalks().change(0));
        check.argument("18 below 0", () -> x.change(-1));
        check.argument("18 far below 0", () -> x.change(LOW));
        check.argument("18 below 0, no slices", () -> new KeyWalks().change(-1));
    }

    private static void pivot() {
        KeyWalks x = Pieces.of("0:1 4:1 7:1", "6:1", "");
        check.due("19 C and G major", true, () -> x.pivot(0, 0, 7));
        check.due("19 C and A minor, whose step 10 is none", false, () -> x.pivot(0, 0, 21));
        check.due("19 C and F major", true, () -> x.pivot(0, 5, 0));
        check.due("19 not in the first", false, () -> x.pivot(1, 0, 7));
        check.due("19 not in the second", false, () -> x.pivot(1, 7, 0));
        check.due("19 one key twice", true, () -> x.pivot(1, 7, 7));
        check.due("19 a silent slice", true, () -> x.pivot(2, 0, 6));
        x.profile(0, 6, 1);
        check.due("19 the profile as it is then", true, () -> x.pivot(1, 0, 7));
        x.profile(0, 11, 0);
        check.due("19 a step less", false, () -> x.pivot(1, 0, 7));
        for (int bad : new int[] {LOW, -1, 3, 40, HIGH}) {
            check.argument("19 slice " + bad, () -> x.pivot(bad, 0, 0));
        }
        for (int bad : new int[] {LOW, -1, 24, HIGH}) {
            check.argument("19 one " + bad, () -> x.pivot(0, bad, 0));
            check.argument("19 other " + bad, () -> x.pivot(0, 0, bad));
            check.argument("19 other " + bad + ", not in the first", () -> x.pivot(1, 0, bad));
        }
    }

    private static void whole() {
        KeyWalks x = Pieces.fromCToFSharp();
        check.due("20 first two", 0, () -> x.whole(0, 1));
        check.due("20 middle two", 6, () -> x.whole(2, 3));
        check.due("20 one of them", 6, () -> x.whole(3, 3));
        check.due("20 all", 0, () -> x.whole(0, 4));
        check.due("20 silent ones", 0, () -> Pieces.silent(4).whole(1, 3));
        check.due("20 of several the least", 3, () -> Pieces.of("3:200").whole(0, 0));
        KeyWalks minor = Pieces.of("9:20 0:9 8:9", "9:1");
        check.due("20 minor", 21, () -> minor.whole(0, 1));
        for (int bad : new int[] {LOW, -1, 5, 40, HIGH}) {
            check.argument("20 first " + bad, () -> x.whole(bad, 4));
            check.argument("20 last " + bad, () -> x.whole(0, bad));
            check.argument("20 both " + bad, () -> x.whole(bad, bad));
        }
        check.argument("20 first above last", () -> x.whole(2, 1));
        check.argument("20 no slices", () -> new KeyWalks().whole(0, 0));
    }

    private static void of() {
        KeyWalks x = Pieces.fromCToFSharp();
        x.costs(20, 4, 6);
        numbersAre("21", x, 5, 20, 4, 6);
        check.due("21 changes", 2, () -> x.of(4));
        x.drop();
        check.due("21 changes behind a drop", 1, () -> x.of(4));
        check.due("21 slices behind a drop", 4, () -> x.of(0));
        check.due("21 no changes", 0, () -> Pieces.silent(3).of(4));
        for (int bad : new int[] {LOW, -1, 5, HIGH}) {
            check.argument("21 of(" + bad + ")", () -> x.of(bad));
        }
    }
}
