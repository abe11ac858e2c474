/** The boundary cases of promises 11 to 18 and 21, which ask for walks, a test for each sentence. */
public final class WalksBoundsTest {
    private static final long MOST = 1000000000000000000L;
    private static final String SIX_PITCHES = "0:200 1:200 2:200 3:200 4:200 5:200";
    private static final String HEAVIEST = SIX_PITCHES + " 6:200 7:200 8:200 9:200 10:200 11:200";
    /** The best keys of each slice of tens. */
    private static final int[] TEN = {0, 8, 9, 10, 11, 12, 20, 21, 22, 23};
    /** How many pitches sound in each slice, for a count of walks just below MOST and for one just above. */
    private static final int[] JUST_BELOW = {11, 7, 7, 6, 6, 5, 5, 5, 5, 5, 0, 0, 0, 0};
    private static final int[] JUST_ABOVE = {12, 12, 10, 8, 8, 4, 1, 1, 1, 0, 0, 0, 0, 0};
    private static final long JUST_BELOW_COUNT = 999998104699256832L;
    private static final Check check = new Check();
    private static final Bounds bounds = new Bounds(check);

    public static void main(String[] args) {
        leastAndKey();
        countAndPick();
        throughAndNear();
        sure();
        changes();
        check.end();
    }

    private static void leastAndKey() {
        check.sentence("Promise 11", "THE LEAST", WalksBoundsTest::least);
        check.sentence("Promise 11", "the least COST of all WALKS", WalksBoundsTest::leastOfAll);
        check.sentence("Promise 11", "(without SLICES 0)", WalksBoundsTest::leastWithoutSlices);
        check.sentence("Promise 12", "The KEY of a SLICE in THE FIRST", WalksBoundsTest::key);
        check.sentence("Promise 12", "IllegalArgument", WalksBoundsTest::keyRefuses);
    }

    private static void countAndPick() {
        check.sentence("Promise 13", "How many WALKS are BEST", WalksBoundsTest::count);
        check.sentence("Promise 13", "(without SLICES 1)", WalksBoundsTest::countWithoutSlices);
        check.sentence("Promise 13", "of 1000000000000000000 and more that", WalksBoundsTest::greatCounts);
        check.sentence("Promise 14", "ahead of which i BEST ones stand", WalksBoundsTest::pick);
        check.sentence("Promise 14", "i (0 .. 999999999999999999)", WalksBoundsTest::pickRange);
        check.sentence("Promise 14", "NONE: there are not so many", WalksBoundsTest::pickNone);
        check.sentence("Promise 14", "IllegalArgument", WalksBoundsTest::pickRefuses);
    }

    private static void throughAndNear() {
        check.sentence("Promise 15", "THROUGH a SLICE and a KEY", WalksBoundsTest::through);
        check.sentence("Promise 15", "IllegalArgument", WalksBoundsTest::throughRefuses);
        check.sentence("Promise 16", "The KEYS, as bits", WalksBoundsTest::nearBits);
        check.sentence("Promise 16", "THE LEAST and a slack (..) at most", WalksBoundsTest::nearAtMost);
        check.sentence("Promise 16", "a slack (0 .. 100000)", WalksBoundsTest::slackRange);
        check.sentence("Promise 16", "IllegalArgument", WalksBoundsTest::nearRefuses);
    }

    private static void sure() {
        check.sentence("Promise 17", "100 times (..), divided by THE NEXT", WalksBoundsTest::sureEnds);
        check.sentence("Promise 17", "cut", WalksBoundsTest::sureIsCut);
        check.sentence("Promise 17", "IllegalArgument", WalksBoundsTest::sureRefuses);
        check.sentence("Promise 17", "Arithmetic: THE NEXT is 0", WalksBoundsTest::nextIsNothing);
    }

    private static void changes() {
        check.sentence("Promise 18", "The i-th SLICE, from 0", WalksBoundsTest::change);
        check.sentence("Promise 18", "NONE: there are not so many", WalksBoundsTest::changeNone);
        check.sentence("Promise 18", "IllegalArgument: i is below 0", WalksBoundsTest::changeRefuses);
        check.sentence("Promise 21", "What = 0 how many SLICES", WalksBoundsTest::ofSlices);
        check.sentence("Promise 21", "1 BASE, 2 BY, 3 OVER", WalksBoundsTest::ofNumbers);
        check.sentence("Promise 21", "4 how many changes THE FIRST has", WalksBoundsTest::ofChanges);
        check.sentence("Promise 21", "IllegalArgument", WalksBoundsTest::ofRefuses);
    }

    private static KeyWalks dropped() {
        KeyWalks x = Pieces.two();
        x.least();
        x.drop();
        x.drop();
        return x;
    }

    private static KeyWalks cleared() {
        KeyWalks x = Pieces.forthAndBack(40);
        x.least();
        x.clear();
        return x;
    }

    /** Each slice has ten best keys, and turns are for nothing. */
    private static KeyWalks tens(int slices) {
        KeyWalks x = new KeyWalks();
        Pieces.profiles(x, Pieces.numbers(0, 1, 0, 1, 2, 3, 4), Pieces.numbers(0, 1, 0, 1, 2, 3, 4));
        x.costs(0, 0, 0);
        for (int s = 0; s < slices; s++) {
            Pieces.add(x, "0:1");
        }
        return x;
    }

    private static void least() {
        check.due("one slice without weights", 0, () -> Pieces.silent(1).least());
        check.due("one slice, the heaviest", 0, () -> Pieces.of(HEAVIEST).least());
        check.due("forty without weights", 0, () -> Pieces.silent(40).least());
        KeyWalks dearest = Pieces.forthAndBack(40);
        check.due("the dearest turn 39 times", 312000, () -> dearest.least());
        dearest.costs(0, 0, 0);
        check.due("the cheapest turn 39 times", 0, () -> dearest.least());
        dearest.costs(1, 0, 0);
        check.due("turns of 1", 39, () -> dearest.least());
        dearest.drop();
        check.due("turns of 1 in 39 slices", 38, () -> dearest.least());
    }

    /** No key is left out, neither of the first slice nor of the last. */
    private static void leastOfAll() {
        for (int key = 0; key < 24; key++) {
            String own = Pieces.chord(key);
            KeyWalks one = Pieces.of(own);
            int due = key;
            check.due("one slice in key " + key + ", least", 0, () -> one.least());
            check.due("one slice in key " + key + ", key", due, () -> one.key(0));
            check.due("one slice in key " + key + ", count", 1L, () -> one.count());
            // Two turns of 1 are cheaper than what the chord of another key costs.
            KeyWalks three = Pieces.of(own, Pieces.chord((key + 1) % 24), own);
            three.costs(1, 0, 0);
            check.due("three slices from key " + key + ", least", 2, () -> three.least());
            check.due("three slices from key " + key + ", first", due, () -> three.key(0));
            check.due("three slices from key " + key + ", second", (due + 1) % 24, () -> three.key(1));
            check.due("three slices from key " + key + ", last", due, () -> three.key(2));
            check.due("three slices from key " + key + ", count", 1L, () -> three.count());
        }
    }

    private static void leastWithoutSlices() {
        check.due("new", 0, () -> new KeyWalks().least());
        check.due("all dropped", 0, () -> dropped().least());
        check.due("all cleared", 0, () -> cleared().least());
    }

    private static void key() {
        KeyWalks silent = Pieces.silent(40);
        KeyWalks turning = Pieces.forthAndBack(40);
        for (int s = 0; s < 40; s++) {
            int at = s;
            check.due("without weights, slice " + s, 0, () -> silent.key(at));
            check.due("forth and back, slice " + s, s % 2 == 0 ? 0 : 15, () -> turning.key(at));
        }
        check.due("the last key", 23, () -> Pieces.of("11:4 2:2 6:2").key(0));
        check.due("of two the first", 11, () -> Pieces.of("11:1").key(0));
    }

    private static void keyRefuses() {
        bounds.range("slice of one", 0, 0, () -> Pieces.silent(1), (x, s) -> x.key(s));
        bounds.range("slice of two", 0, 1, Pieces::two, (x, s) -> x.key(s));
        bounds.range("slice of forty", 0, 39, Pieces::full, (x, s) -> x.key(s));
        bounds.noneOf("slice, new", KeyWalks::new, (x, s) -> x.key(s), -1, 0, 1);
        bounds.noneOf("slice, all dropped", WalksBoundsTest::dropped, (x, s) -> x.key(s), 0, 1);
        bounds.noneOf("slice, all cleared", WalksBoundsTest::cleared, (x, s) -> x.key(s), 0, 1);
    }

    private static void count() {
        check.due("one slice without weights", 24L, () -> Pieces.silent(1).count());
        check.due("forty without weights", 24L, () -> Pieces.silent(40).count());
        check.due("one slice with one best key", 1L, () -> Pieces.of("11:4 2:2 6:2").count());
        check.due("forty with one best walk", 1L, () -> Pieces.forthAndBack(40).count());
        KeyWalks one = Pieces.silent(1);
        one.costs(1000, 1000, 1000);
        check.due("one slice has no turn", 24L, () -> one.count());
    }

    private static void countWithoutSlices() {
        check.due("new", 1L, () -> new KeyWalks().count());
        check.due("all dropped", 1L, () -> dropped().count());
        check.due("all cleared", 1L, () -> cleared().count());
    }

    private static void greatCounts() {
        check.due("10 ^ 17", MOST / 10, () -> tens(17).count());
        check.due("10 ^ 18", MOST, () -> tens(18).count());
        check.due("10 ^ 19, above any long", MOST, () -> tens(19).count());
        check.due("10 ^ 40", MOST, () -> tens(40).count());
        check.due("the next product below", JUST_BELOW_COUNT, () -> Pieces.freeTurns(JUST_BELOW).count());
        check.due("the next product above", MOST, () -> Pieces.freeTurns(JUST_ABOVE).count());
        KeyWalks x = Pieces.silent(13);
        x.costs(0, 0, 0);
        check.due("24 ^ 13", 876488338465357824L, () -> x.count());
        x.slice();
        check.due("24 ^ 14", MOST, () -> x.count());
        x.drop();
        check.due("24 ^ 13 again", 876488338465357824L, () -> x.count());
        // Sixteen best keys in each slice: at 2 ^ 64 a count that wraps round would be 0.
        KeyWalks powers = Pieces.freeTurns(8, 8, 8, 8, 8, 8, 8, 8, 8, 8, 8, 8, 8, 8, 8, 8);
        check.due("2 ^ 64", MOST, () -> powers.count());
        powers.drop();
        check.due("2 ^ 60", MOST, () -> powers.count());
        powers.drop();
        check.due("2 ^ 56", 1L << 56, () -> powers.count());
    }

    private static void pick() {
        KeyWalks x = tens(18);
        String digits = "123456789012345678";
        for (int s = 0; s < 18; s++) {
            int at = s;
            check.due("slice " + s, TEN[digits.charAt(s) - '0'], () -> x.pick(123456789012345678L, at));
        }
        check.due("the last one that begins with the first key", 0, () -> x.pick(MOST / 10 - 1, 0));
        check.due("the first one that begins with the second", 8, () -> x.pick(MOST / 10, 0));
        check.due("and ends with the first key", 0, () -> x.pick(MOST / 10, 17));
        KeyWalks turning = Pieces.forthAndBack(40);
        check.due("the only walk, slice 0", 0, () -> turning.pick(0, 0));
        check.due("the only walk, slice 39", 15, () -> turning.pick(0, 39));
        KeyWalks silent = Pieces.silent(40);
        check.due("the last of 24", 23, () -> silent.pick(23, 39));
    }

    private static void pickRange() {
        KeyWalks x = tens(18);
        for (int s = 0; s < 18; s++) {
            int at = s;
            check.due("i of 0, slice " + s, 0, () -> x.pick(0, at));
            check.due("the last i, slice " + s, 23, () -> x.pick(MOST - 1, at));
        }
        KeyWalks forty = tens(40);
        for (int s = 0; s < 40; s++) {
            int at = s;
            check.due("the last i of 10 ^ 40, slice " + s, s < 22 ? 0 : 23, () -> forty.pick(MOST - 1, at));
        }
        KeyWalks above = Pieces.freeTurns(JUST_ABOVE);
        long rest = MOST - 1;
        for (int s = 13; s >= 0; s--) {
            int at = s;
            int best = 24 - JUST_ABOVE[s];
            long due = JUST_ABOVE[s] + rest % best;
            check.due("the last i of some more, slice " + s, due, () -> above.pick(MOST - 1, at));
            rest /= best;
        }
        for (long i : new long[] {Long.MIN_VALUE, -MOST, -1, MOST, MOST + 1, Long.MAX_VALUE}) {
            bounds.refused("i of " + i, Check.ARGUMENT, () -> tens(19), y -> y.pick(i, 0));
            bounds.refused("i of " + i + ", not so many", Check.ARGUMENT, Pieces::two, y -> y.pick(i, 1));
        }
    }

    private static void pickNone() {
        KeyWalks one = Pieces.forthAndBack(40);
        for (long i : new long[] {1, 2, 1L << 31, 1L << 32, MOST - 1}) {
            check.due("of one, i of " + i + ", slice 0", KeyWalks.NONE, () -> one.pick(i, 0));
            check.due("of one, i of " + i + ", slice 39", KeyWalks.NONE, () -> one.pick(i, 39));
        }
        KeyWalks silent = Pieces.silent(1);
        check.due("of 24, the last", 23, () -> silent.pick(23, 0));
        check.due("of 24, one more", KeyWalks.NONE, () -> silent.pick(24, 0));
        KeyWalks below = Pieces.freeTurns(JUST_BELOW);
        check.due("of some less than all, the last", 23, () -> below.pick(JUST_BELOW_COUNT - 1, 0));
        check.due("of some less than all, the last, slice 13", 23, () -> below.pick(JUST_BELOW_COUNT - 1, 13));
        check.due("of some less than all, one more", KeyWalks.NONE, () -> below.pick(JUST_BELOW_COUNT, 0));
        check.due("of some less than all, the last i", KeyWalks.NONE, () -> below.pick(MOST - 1, 13));
        KeyWalks seventeen = tens(17);
        check.due("of 10 ^ 17, the last", 23, () -> seventeen.pick(MOST / 10 - 1, 16));
        check.due("of 10 ^ 17, one more", KeyWalks.NONE, () -> seventeen.pick(MOST / 10, 16));
        check.due("of 10 ^ 17, the last again", 23, () -> seventeen.pick(MOST / 10 - 1, 0));
    }

    private static void pickRefuses() {
        bounds.range("slice of two", 0, 1, Pieces::two, (x, s) -> x.pick(0, s));
        bounds.range("slice of forty", 0, 39, () -> tens(40), (x, s) -> x.pick(MOST - 1, s));
        // Where there are not so many walks, a slice that is none is still refused.
        bounds.range("slice, not so many", 0, 1, Pieces::two, (x, s) -> x.pick(MOST - 1, s));
        bounds.noneOf("slice without slices", KeyWalks::new, (x, s) -> x.pick(0, s), -1, 0, 1);
        bounds.noneOf("slice without slices, not so many", KeyWalks::new, (x, s) -> x.pick(1, s), -1, 0, 1);
    }

    private static KeyWalks thirtyHeaviest() {
        KeyWalks x = new KeyWalks();
        Pieces.profiles(x, Pieces.numbers(99, 0), Pieces.numbers(0, 0));
        x.costs(1000, 1000, 1000);
        for (int s = 0; s < 30; s++) {
            Pieces.add(x, HEAVIEST);
        }
        return x;
    }

    private static void through() {
        KeyWalks one = Pieces.of("11:4 2:2 6:2");
        check.due("one slice, the last key", 0, () -> one.through(0, 23));
        check.due("one slice, another key", 6, () -> one.through(0, 11));
        // A minor key loses 12 * 200 * 99, and a turn of 2000 leads into it, and one out of it.
        KeyWalks x = thirtyHeaviest();
        check.due("the first slice", 237600 + 2000, () -> x.through(0, 12));
        check.due("a slice between", 237600 + 4000, () -> x.through(15, 23));
        check.due("the last slice", 237600 + 2000, () -> x.through(29, 12));
        check.due("a major key", 0, () -> x.through(29, 11));
        KeyWalks turning = Pieces.forthAndBack(40);
        check.due("the best walk, slice 0", 312000, () -> turning.through(0, 0));
        check.due("the best walk, slice 39", 312000, () -> turning.through(39, 15));
        // One turn is saved, and two of the three pitches are lost.
        check.due("beside it, slice 39", 38 * 8000 + 2 * 19800, () -> turning.through(39, 0));
    }

    private static void throughRefuses() {
        bounds.range("slice of two", 0, 1, Pieces::two, (x, s) -> x.through(s, 23));
        bounds.range("slice of forty", 0, 39, Pieces::full, (x, s) -> x.through(s, 23));
        bounds.range("key", 0, 23, Pieces::two, (x, key) -> x.through(1, key));
        bounds.noneOf("slice, new", KeyWalks::new, (x, s) -> x.through(s, 0), -1, 0, 1);
        bounds.noneOf("slice, all dropped", WalksBoundsTest::dropped, (x, s) -> x.through(s, 0), 0, 1);
    }

    private static void nearBits() {
        check.due("the first key alone", 1, () -> Pieces.of("0:4 4:2 7:2").near(0, 0));
        check.due("the last key alone", 1 << 23, () -> Pieces.of("11:4 2:2 6:2").near(0, 0));
        check.due("all 24 and no more", 0xffffff, () -> Pieces.silent(1).near(0, 0));
        check.due("all 24 and no more, the greatest slack", 0xffffff, () -> Pieces.silent(40).near(39, 100000));
        KeyWalks tens = tens(40);
        int ten = 0;
        for (int key : TEN) {
            ten |= 1 << key;
        }
        int due = ten;
        check.due("ten of them, slice 0", due, () -> tens.near(0, 0));
        check.due("ten of them, slice 39", due, () -> tens.near(39, 0));
        KeyWalks turning = Pieces.forthAndBack(40);
        check.due("that of the only walk, slice 38", 1, () -> turning.near(38, 0));
        check.due("that of the only walk, slice 39", 1 << 15, () -> turning.near(39, 0));
    }

    /** In each minor key the slice costs what these pitches are worth in C major. */
    private static KeyWalks minorIsWorthNothing(String pitches) {
        KeyWalks x = Pieces.of(pitches);
        Pieces.profiles(x, new int[] {99, 99, 99, 99, 99, 5, 1, 0, 0, 0, 0, 0}, Pieces.numbers(0, 0));
        return x;
    }

    private static void nearAtMost() {
        KeyWalks x = Pieces.of("0:4 4:2 7:2");
        // G major and E minor cost 4, C minor costs 6.
        check.due("slack 3", 1, () -> x.near(0, 3));
        check.due("slack 4", 1 | 1 << 7 | 1 << 16, () -> x.near(0, 4));
        check.due("slack 5", 1 | 1 << 7 | 1 << 16, () -> x.near(0, 5));
        // 200 * (5 * 99 + 5) is 100000.
        KeyWalks just = minorIsWorthNothing(SIX_PITCHES);
        check.due("100000 more, slack 99999", 0xfff, () -> just.near(0, 99999));
        check.due("100000 more, slack 100000", 0xffffff, () -> just.near(0, 100000));
        KeyWalks above = minorIsWorthNothing(SIX_PITCHES + " 6:1");
        check.due("100001 more, slack 100000", 0xfff, () -> above.near(0, 100000));
        // The least itself is not 0 here: the slack goes on top of it.
        KeyWalks six = Pieces.of("0:1", "6:1");
        int keys = 1 << 1 | 1 << 7 | 1 << 13 | 1 << 16 | 1 << 19 | 1 << 22;
        check.due("a least of 4, slack 0", keys, () -> six.near(0, 0));
    }

    private static void slackRange() {
        bounds.range("slack", 0, 100000, Pieces::two, (x, slack) -> x.near(0, slack));
        bounds.range("slack of the last slice", 0, 100000, Pieces::full, (x, slack) -> x.near(39, slack));
    }

    private static void nearRefuses() {
        bounds.range("slice of two", 0, 1, Pieces::two, (x, s) -> x.near(s, 0));
        bounds.range("slice of forty", 0, 39, Pieces::full, (x, s) -> x.near(s, 100000));
        bounds.noneOf("slice, new", KeyWalks::new, (x, s) -> x.near(s, 0), -1, 0, 1);
        bounds.noneOf("slice, all dropped", WalksBoundsTest::dropped, (x, s) -> x.near(s, 0), 0, 1);
        bounds.refused("both wrong", Check.ARGUMENT, Pieces::two, x -> x.near(2, -1));
    }

    private static void sureEnds() {
        check.due("the least is 0, the next is not", 100, () -> Pieces.of("0:4 4:2 7:2").sure(0));
        check.due("the least is 0, the next is 1", 100, () -> nextOfOne().sure(0));
        check.due("the next is the least, and not 0", 0, () -> Pieces.of("0:1", "6:1").sure(0));
        // A slice in B flat minor loses 19800, but its turns are of one place, 2000 and not 8000.
        KeyWalks two = Pieces.forthAndBack(2);
        check.due("13800 of 21800", 63, () -> two.sure(0));
        KeyWalks forty = Pieces.forthAndBack(40);
        check.due("13800 of 325800", 4, () -> forty.sure(0));
        check.due("7800 of 319800", 2, () -> forty.sure(20));
    }

    /** One slice with one best key, and another one that costs 1 more. */
    private static KeyWalks nextOfOne() {
        KeyWalks x = Pieces.of("0:1");
        Pieces.profiles(x, Pieces.numbers(0, 2, 0), Pieces.numbers(0, 1, 0));
        return x;
    }

    private static void sureIsCut() {
        KeyWalks x = Pieces.forthAndBack(2);
        // The least is the one turn, the next 19800 more.
        x.costs(1, 0, 0);
        check.due("99.99", 99, () -> x.sure(0));
        x.costs(100, 0, 0);
        check.due("99.497", 99, () -> x.sure(1));
        x.costs(200, 0, 0);
        check.due("99 sharp", 99, () -> x.sure(0));
        x.costs(201, 0, 0);
        check.due("98.995", 98, () -> x.sure(0));
        x.costs(0, 0, 0);
        check.due("100 sharp", 100, () -> x.sure(0));
        // E minor costs 398 and 400, the next ones 400 and 400; no turn is worth it.
        KeyWalks close = Pieces.of("0:200 4:1", "6:200");
        close.costs(1000, 1000, 1000);
        check.due("the least of it", 798, () -> close.least());
        check.due("0.25", 0, () -> close.sure(0));
    }

    private static void sureRefuses() {
        bounds.range("slice of two", 0, 1, Pieces::two, (x, s) -> x.sure(s));
        bounds.range("slice of forty", 0, 39, () -> Pieces.forthAndBack(40), (x, s) -> x.sure(s));
        bounds.noneOf("slice, new", KeyWalks::new, (x, s) -> x.sure(s), -1, 0, 1);
        bounds.noneOf("slice, all dropped", WalksBoundsTest::dropped, (x, s) -> x.sure(s), 0, 1);
        bounds.noneOf("slice, the next is 0", () -> Pieces.silent(2), (x, s) -> x.sure(s), -1, 2);
    }

    private static void nextIsNothing() {
        bounds.refused("no weights", Check.ARITHMETIC, () -> Pieces.silent(1), x -> x.sure(0));
        bounds.refused("no weights in the last of forty", Check.ARITHMETIC, () -> Pieces.silent(40), x -> x.sure(39));
        bounds.refused("both modes", Check.ARITHMETIC, () -> Pieces.of("0:200"), x -> x.sure(0));
        bounds.refused("turns for nothing", Check.ARITHMETIC, () -> tens(40), x -> x.sure(20));
        bounds.taken("1 is not 0", WalksBoundsTest::nextOfOne, x -> x.sure(0));
    }

    private static void change() {
        KeyWalks x = Pieces.forthAndBack(40);
        for (int i = 0; i < 39; i++) {
            int at = i;
            check.due("change(" + i + ")", i + 1, () -> x.change(at));
        }
        KeyWalks two = Pieces.forthAndBack(2);
        check.due("in the last of two", 1, () -> two.change(0));
        check.due("not where a key is kept", 2, () -> Pieces.fromCToFSharp().change(0));
    }

    private static void changeNone() {
        KeyWalks x = Pieces.forthAndBack(40);
        check.due("the 39th and last", 39, () -> x.change(38));
        check.due("one more", KeyWalks.NONE, () -> x.change(39));
        check.due("two more", KeyWalks.NONE, () -> x.change(40));
        check.due("the greatest number", KeyWalks.NONE, () -> x.change(Integer.MAX_VALUE));
        check.due("none in forty", KeyWalks.NONE, () -> Pieces.silent(40).change(0));
        check.due("none in one", KeyWalks.NONE, () -> Pieces.of("11:4 2:2 6:2").change(0));
        check.due("no slices", KeyWalks.NONE, () -> new KeyWalks().change(0));
        check.due("no slices, the greatest number", KeyWalks.NONE, () -> new KeyWalks().change(Integer.MAX_VALUE));
        check.due("all dropped", KeyWalks.NONE, () -> dropped().change(0));
        check.due("all cleared", KeyWalks.NONE, () -> cleared().change(0));
    }

    private static void changeRefuses() {
        bounds.noneOf("i", Pieces::two, (x, i) -> x.change(i), -1, -2, Integer.MIN_VALUE);
        bounds.noneOf("i of forty", () -> Pieces.forthAndBack(40), (x, i) -> x.change(i), -1, Integer.MIN_VALUE);
        bounds.noneOf("i without slices", KeyWalks::new, (x, i) -> x.change(i), -1, Integer.MIN_VALUE);
        bounds.taken("i of 0", Pieces::two, x -> x.change(0));
    }

    private static void ofSlices() {
        check.due("new", 0, () -> new KeyWalks().of(0));
        check.due("forty", 40, () -> Pieces.silent(40).of(0));
        check.due("all dropped", 0, () -> dropped().of(0));
        check.due("all cleared", 0, () -> cleared().of(0));
    }

    private static void ofNumbers() {
        KeyWalks x = new KeyWalks();
        x.costs(0, 1000, 0);
        check.due("BASE of 0", 0, () -> x.of(1));
        check.due("BY of 1000", 1000, () -> x.of(2));
        check.due("OVER of 0", 0, () -> x.of(3));
        x.costs(1000, 0, 1000);
        check.due("BASE of 1000", 1000, () -> x.of(1));
        check.due("BY of 0", 0, () -> x.of(2));
        check.due("OVER of 1000", 1000, () -> x.of(3));
    }

    private static void ofChanges() {
        check.due("no slices", 0, () -> new KeyWalks().of(4));
        check.due("one slice", 0, () -> Pieces.of("11:4 2:2 6:2").of(4));
        check.due("forty in one key", 0, () -> Pieces.silent(40).of(4));
        check.due("one in two", 1, () -> Pieces.forthAndBack(2).of(4));
        check.due("39 in forty", 39, () -> Pieces.forthAndBack(40).of(4));
        check.due("all dropped", 0, () -> dropped().of(4));
        check.due("all cleared", 0, () -> cleared().of(4));
    }

    private static void ofRefuses() {
        bounds.range("what", 0, 4, Pieces::two, (x, what) -> x.of(what));
        bounds.range("what, without slices", 0, 4, KeyWalks::new, (x, what) -> x.of(what));
        bounds.range("what of forty", 0, 4, Pieces::full, (x, what) -> x.of(what));
    }
}
