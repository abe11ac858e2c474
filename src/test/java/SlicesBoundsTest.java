/** The boundary cases of promises 8 to 10, 19 and 20, which ask for no walk, a test for each sentence. */
public final class SlicesBoundsTest {
    private static final String HEAVIEST =
        "0:200 1:200 2:200 3:200 4:200 5:200 6:200 7:200 8:200 9:200 10:200 11:200";
    private static final Check check = new Check();
    private static final Bounds bounds = new Bounds(check);

    public static void main(String[] args) {
        check.sentence("Promise 8", "FIT of a SLICE in a KEY", SlicesBoundsTest::fit);
        check.sentence("Promise 8", "IllegalArgument", SlicesBoundsTest::fitRefuses);
        check.sentence("Promise 9", "COST of a SLICE in a KEY", SlicesBoundsTest::cost);
        check.sentence("Promise 9", "IllegalArgument", SlicesBoundsTest::costRefuses);
        check.sentence("Promise 10", "TURN from a KEY to another one", SlicesBoundsTest::turn);
        check.sentence("Promise 10", "IllegalArgument", SlicesBoundsTest::turnRefuses);
        check.sentence("Promise 19", "all PITCHES to which a SLICE gives WEIGHT", SlicesBoundsTest::pivotPitches);
        check.sentence("Promise 19", "are in THE SCALES of two KEYS", SlicesBoundsTest::pivotScales);
        check.sentence("Promise 19", "IllegalArgument", SlicesBoundsTest::pivotRefuses);
        check.sentence("Promise 20", "FITS of SLICES first .. last together", SlicesBoundsTest::wholeRange);
        check.sentence("Promise 20", "are greatest", SlicesBoundsTest::wholeGreatest);
        check.sentence("Promise 20", "of several the least", SlicesBoundsTest::wholeLeast);
        check.sentence("Promise 20", "IllegalArgument", SlicesBoundsTest::wholeRefuses);
        check.sentence("Promise 20", "also first above last", SlicesBoundsTest::firstAboveLast);
        check.end();
    }

    /** All that is heaviest: major keys fit with 12 * 200 * 99, minor ones with nothing. */
    private static KeyWalks heaviest(int slices) {
        KeyWalks x = new KeyWalks();
        Pieces.profiles(x, Pieces.numbers(99, 0), Pieces.numbers(0, 99));
        for (int s = 0; s < slices; s++) {
            Pieces.add(x, HEAVIEST);
        }
        return x;
    }

    private static void fit() {
        KeyWalks silent = Pieces.silent(40);
        check.due("no weights, slice 0, key 0", 0, () -> silent.fit(0, 0));
        check.due("no weights, slice 39, key 23", 0, () -> silent.fit(39, 23));
        KeyWalks most = heaviest(1);
        check.due("the greatest", 237600, () -> most.fit(0, 0));
        check.due("the greatest in the last major key", 237600, () -> most.fit(0, 11));
        check.due("weights without numbers", 0, () -> most.fit(0, 12));
        KeyWalks full = Pieces.full();
        check.due("slice 0 of forty", 5, () -> full.fit(0, 0));
        // Slice 39 has 40 of pitch 9 and 200 of pitch 11, steps 0 and 2 above A.
        check.due("slice 39 of forty", 40 * 5 + 200 * 3, () -> full.fit(39, 9));
        check.due("slice 39 of forty, key 23", 200 * 5, () -> full.fit(39, 23));
    }

    private static void fitRefuses() {
        bounds.range("slice of two", 0, 1, Pieces::two, (x, s) -> x.fit(s, 23));
        bounds.range("slice of forty", 0, 39, Pieces::full, (x, s) -> x.fit(s, 23));
        bounds.range("key", 0, 23, Pieces::two, (x, key) -> x.fit(1, key));
        bounds.noneOf("slice without slices", KeyWalks::new, (x, s) -> x.fit(s, 0), -1, 0, 1);
    }

    private static void cost() {
        KeyWalks silent = Pieces.silent(40);
        check.due("no weights, slice 0, key 0", 0, () -> silent.cost(0, 0));
        check.due("no weights, slice 39, key 23", 0, () -> silent.cost(39, 23));
        KeyWalks most = heaviest(1);
        check.due("the least", 0, () -> most.cost(0, 11));
        check.due("the greatest", 237600, () -> most.cost(0, 12));
        check.due("the greatest in the last key", 237600, () -> most.cost(0, 23));
        // Only B minor, the last key, has its tonic, minor third and fifth together.
        KeyWalks last = Pieces.of("11:4 2:2 6:2");
        check.due("the best key is the last one", 0, () -> last.cost(0, 23));
        check.due("and the others are held against it", 6, () -> last.cost(0, 11));
        KeyWalks none = new KeyWalks();
        Pieces.profiles(none, Pieces.numbers(0, 0), Pieces.numbers(0, 0));
        Pieces.add(none, HEAVIEST);
        check.due("no key fits at all", 0, () -> none.cost(0, 5));
    }

    private static void costRefuses() {
        bounds.range("slice of two", 0, 1, Pieces::two, (x, s) -> x.cost(s, 23));
        bounds.range("slice of forty", 0, 39, Pieces::full, (x, s) -> x.cost(s, 23));
        bounds.range("key", 0, 23, Pieces::two, (x, key) -> x.cost(1, key));
        bounds.noneOf("slice without slices", KeyWalks::new, (x, s) -> x.cost(s, 0), -1, 0, 1);
    }

    private static void turn() {
        KeyWalks x = new KeyWalks();
        check.due("without slices, first key to last", 10 + 2 * 5 + 2, () -> x.turn(0, 23));
        check.due("without slices, last key to first", 10 + 2 * 5 + 2, () -> x.turn(23, 0));
        check.due("the last key to itself", 0, () -> x.turn(23, 23));
        x.costs(1000, 1000, 1000);
        check.due("the dearest", 8000, () -> x.turn(0, 15));
        check.due("the dearest back", 8000, () -> x.turn(15, 0));
        x.costs(0, 0, 0);
        check.due("the cheapest", 0, () -> x.turn(0, 15));
    }

    private static void turnRefuses() {
        bounds.range("from", 0, 23, Pieces::two, (x, key) -> x.turn(key, 12));
        bounds.range("to", 0, 23, Pieces::two, (x, key) -> x.turn(12, key));
        bounds.range("from and to", 0, 23, Pieces::two, (x, key) -> x.turn(key, key));
        bounds.range("from, without slices", 0, 23, KeyWalks::new, (x, key) -> x.turn(key, 0));
    }

    private static void pivotPitches() {
        KeyWalks silent = Pieces.silent(40);
        check.due("no weights at all", true, () -> silent.pivot(0, 0, 6));
        check.due("no weights in the last slice, last key", true, () -> silent.pivot(39, 23, 0));
        // C major has pitches 0 and 11, G major too; E major has 11 alone, F major 0 alone.
        KeyWalks x = Pieces.of("0:1", "11:200", "0:1 11:1", "0:1 1:1");
        check.due("pitch 0", true, () -> x.pivot(0, 0, 5));
        check.due("pitch 0 is not in E major", false, () -> x.pivot(0, 0, 4));
        check.due("pitch 11", true, () -> x.pivot(1, 0, 4));
        check.due("pitch 11 is not in F major", false, () -> x.pivot(1, 0, 5));
        check.due("both", true, () -> x.pivot(2, 0, 7));
        check.due("the first alone", false, () -> x.pivot(2, 0, 5));
        check.due("the last alone", false, () -> x.pivot(2, 0, 4));
        check.due("a weight of 1 is a weight", false, () -> x.pivot(3, 0, 0));
        check.due("slices stand for themselves", true, () -> x.pivot(0, 0, 0));
    }

    private static void pivotScales() {
        KeyWalks x = Pieces.of("6:1");
        check.due("in neither", false, () -> x.pivot(0, 0, 5));
        check.due("in one alone", false, () -> x.pivot(0, 7, 0));
        check.due("in the other alone", false, () -> x.pivot(0, 0, 7));
        check.due("in both", true, () -> x.pivot(0, 7, 2));
        check.due("one key twice", true, () -> x.pivot(0, 7, 7));
        check.due("one key twice, not in it", false, () -> x.pivot(0, 0, 0));
        // Pitch 6 is step 7 above B, the last key's tonic.
        check.due("the last key", true, () -> x.pivot(0, 23, 7));
        x.profile(1, 7, 0);
        check.due("the last key without that step", false, () -> x.pivot(0, 23, 7));
        x.profile(1, 7, 1);
        check.due("the last key with 1 for that step", true, () -> x.pivot(0, 7, 23));
    }

    private static void pivotRefuses() {
        bounds.range("slice of two", 0, 1, Pieces::two, (x, s) -> x.pivot(s, 0, 23));
        bounds.range("slice of forty", 0, 39, Pieces::full, (x, s) -> x.pivot(s, 0, 23));
        bounds.range("one", 0, 23, Pieces::two, (x, key) -> x.pivot(0, key, 0));
        bounds.range("other", 0, 23, Pieces::two, (x, key) -> x.pivot(0, 0, key));
        bounds.range("both", 0, 23, Pieces::two, (x, key) -> x.pivot(0, key, key));
        bounds.range("one, no weights", 0, 23, () -> Pieces.silent(1), (x, key) -> x.pivot(0, key, 0));
        bounds.range("other, no weights", 0, 23, () -> Pieces.silent(1), (x, key) -> x.pivot(0, 0, key));
        // Pitch 6 is not in C major, so the answer would be no whatever the other key is.
        bounds.range("other, not in one", 0, 23, () -> Pieces.of("6:1"), (x, key) -> x.pivot(0, 0, key));
        bounds.noneOf("slice without slices", KeyWalks::new, (x, s) -> x.pivot(s, 0, 0), -1, 0, 1);
    }

    private static void wholeRange() {
        // Each slice outweighs all those ahead of it.
        KeyWalks x = Pieces.of("0:1", "3:8", "6:40", "9:200");
        for (int last = 0; last < 4; last++) {
            int to = last;
            int due = new int[] {0, 3, 6, 9}[last];
            check.due("slices 0 .. " + last, due, () -> x.whole(0, to));
            check.due("slice " + last + " alone", due, () -> x.whole(to, to));
            check.due("slices " + last + " .. 3", 9, () -> x.whole(to, 3));
        }
        // Slices 1 .. 38 have pitch 6 alone; with pitch 0 or 11 of the outer ones another key would be greatest.
        KeyWalks forty = Pieces.silent(40);
        forty.note(0, 0, 200);
        forty.note(1, 6, 100);
        forty.note(38, 6, 101);
        forty.note(39, 11, 200);
        check.due("without slices 0 and 39", 6, () -> forty.whole(1, 38));
        check.due("slice 0 alone", 0, () -> forty.whole(0, 0));
        check.due("slice 39 alone", 11, () -> forty.whole(39, 39));
        check.due("slices 2 .. 37", 0, () -> forty.whole(2, 37));
    }

    private static void wholeGreatest() {
        check.due("the last key", 23, () -> Pieces.of("11:4 2:2 6:2").whole(0, 0));
        check.due("the first key", 0, () -> Pieces.of("0:4 4:2 7:2").whole(0, 0));
        // B major and B minor share all but the third, and the minor one is heavier by 1.
        KeyWalks close = Pieces.of("11:200 2:100", "11:200 3:99");
        check.due("by 3 alone", 23, () -> close.whole(0, 1));
        KeyWalks most = heaviest(1);
        check.due("the heaviest", 0, () -> most.whole(0, 0));
    }

    private static void wholeLeast() {
        check.due("of all 24", 0, () -> Pieces.silent(1).whole(0, 0));
        check.due("of all 24 over forty slices", 0, () -> Pieces.silent(40).whole(0, 39));
        for (int pitch = 0; pitch < 12; pitch++) {
            KeyWalks x = Pieces.of(pitch + ":1");
            check.due("major and minor of " + pitch, pitch, () -> x.whole(0, 0));
        }
        KeyWalks minor = Pieces.of("5:7", "10:7");
        Pieces.profiles(minor, Pieces.numbers(0, 0), Pieces.numbers(0, 9, 0));
        check.due("two minor keys", 17, () -> minor.whole(0, 1));
        check.due("the last two keys", 22, () -> lastTwo().whole(0, 1));
    }

    private static KeyWalks lastTwo() {
        KeyWalks x = Pieces.of("11:7", "10:7");
        Pieces.profiles(x, Pieces.numbers(0, 0), Pieces.numbers(0, 9, 0));
        return x;
    }

    private static void wholeRefuses() {
        bounds.range("first of two", 0, 1, Pieces::two, (x, s) -> x.whole(s, 1));
        bounds.range("last of two", 0, 1, Pieces::two, (x, s) -> x.whole(0, s));
        bounds.range("first of forty", 0, 39, Pieces::full, (x, s) -> x.whole(s, 39));
        bounds.range("last of forty", 0, 39, Pieces::full, (x, s) -> x.whole(0, s));
        bounds.noneOf("both", Pieces::two, (x, s) -> x.whole(s, s), -1, 2, 40);
        bounds.noneOf("last without slices", KeyWalks::new, (x, s) -> x.whole(0, s), -1, 0, 1);
        bounds.refused("both beyond the last slice", Check.ARGUMENT, Pieces::two, x -> x.whole(2, 3));
        bounds.refused("all and one more", Check.ARGUMENT, Pieces::two, x -> x.whole(0, 2));
        bounds.refused("all and one before", Check.ARGUMENT, Pieces::two, x -> x.whole(-1, 1));
    }

    private static void firstAboveLast() {
        bounds.refused("by one", Check.ARGUMENT, Pieces::two, x -> x.whole(1, 0));
        bounds.refused("by all", Check.ARGUMENT, Pieces::full, x -> x.whole(39, 0));
        bounds.refused("at the end", Check.ARGUMENT, Pieces::full, x -> x.whole(39, 38));
        bounds.taken("the same at the start", Pieces::full, x -> x.whole(0, 0));
        bounds.taken("the same at the end", Pieces::full, x -> x.whole(39, 39));
    }
}
