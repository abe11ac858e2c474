/** 'What it is': an object is used for at most 512 calls; up to the last of them all that is promised holds. */
public final class CallLimitTest {
    private static final int CALLS = 512;
    private static final String WORDS = "at most 512 calls after it has been made";
    private static final Check check = new Check();

    public static void main(String[] args) {
        check.sentence("What it is", WORDS + ", changes", CallLimitTest::changes);
        check.sentence("What it is", WORDS + ", refused ones", CallLimitTest::refused);
        check.sentence("What it is", WORDS + ", a full piece", CallLimitTest::fullPiece);
        check.sentence("What it is", WORDS + ", the dearest ones", CallLimitTest::dearest);
        check.sentence("What it is", WORDS + ", each call as the last", CallLimitTest::eachAsTheLast);
        check.end();
    }

    private static void changes() {
        KeyWalks x = new KeyWalks();
        for (int call = 1; call <= CALLS; call += 2) {
            check.due("slice, call " + call, 0, () -> x.slice());
            check.due("drop, call " + (call + 1), 0, () -> x.drop());
        }
    }

    private static void refused() {
        KeyWalks x = new KeyWalks();
        for (int call = 1; call < CALLS; call++) {
            check.state("drop, call " + call, () -> x.drop());
        }
        check.due("slice, call " + CALLS, 0, () -> x.slice());
    }

    private static void fullPiece() {
        KeyWalks x = Pieces.silent(40);
        // 470 notes more: 39 slices with all their pitches, and two of the last one.
        for (int note = 0; note < 470; note++) {
            int slice = note / 12;
            int pitch = note % 12;
            check.due("note " + note, 200, () -> x.note(slice, pitch, 200));
        }
        // All twelve pitches alike fit every key alike; pitches 0 and 1 fit the two keys of tonic 1 best.
        check.due("count, call 511", 2L, () -> x.count());
        check.due("key, call " + CALLS, 1, () -> x.key(39));
    }

    /** Each question comes behind a change, so that all walks of forty slices are to be found anew. */
    private static void dearest() {
        KeyWalks x = Pieces.forthAndBack(40);
        int made = 24 + 1 + 40 * 4;
        int left = CALLS - made;
        for (int call = 0; call + 2 < left; call += 2) {
            int base = call % 1000;
            x.costs(base, 1000, 1000);
            check.due("least, call " + (made + call + 2), 39 * (base + 7000), () -> x.least());
        }
        check.due("pick, call " + CALLS, 15, () -> x.pick(0, 39));
    }

    private static void eachAsTheLast() {
        last("clear", 2, x -> x.clear());
        last("profile", 4, x -> x.profile(1, 10, 0));
        last("costs", 3, x -> x.costs(0, 0, 0));
        last("slice", 2, x -> x.slice());
        last("note", 5, x -> x.note(0, 0, 1));
        last("drop", 1, x -> x.drop());
        last("fit", 4 * 5 + 2 * 3 + 2 * 3, x -> x.fit(0, 0));
        last("cost", 0, x -> x.cost(0, 0));
        last("turn", 11 + 6 * 6 + 3, x -> x.turn(0, 15));
        last("of", 2, x -> x.of(0));
        last("whole", 0, x -> x.whole(0, 0));
        last("pivot", true, x -> x.pivot(0, 0, 7));
        last("change", Check.ARGUMENT, x -> x.change(-1));
        KeyWalks early = Pieces.two();
        last("least", early.least(), x -> x.least());
        last("key", early.key(1), x -> x.key(1));
        last("count", early.count(), x -> x.count());
        last("pick", early.pick(0, 0), x -> x.pick(0, 0));
        last("through", early.through(1, 23), x -> x.through(1, 23));
        last("near", early.near(1, 20), x -> x.near(1, 20));
        last("sure", early.sure(0), x -> x.sure(0));
    }

    private static void last(String what, Object due, Bounds.On call) {
        KeyWalks x = Pieces.two();
        int made = 2 + 6 + 2 + 1;
        for (int n = made + 1; n < CALLS; n++) {
            x.of(n % 5);
        }
        check.due(what + ", call " + CALLS, due, () -> call.answer(x));
    }
}
