/** The boundary cases of promises 1 to 7, which make and change a piece, a test for each sentence. */
public final class ChangesBoundsTest {
    private static final Check check = new Check();
    private static final Bounds bounds = new Bounds(check);

    public static void main(String[] args) {
        newAndCleared();
        numbers();
        slices();
        notes();
        drops();
        check.end();
    }

    private static void newAndCleared() {
        check.sentence("Promise 1", "No SLICES", ChangesBoundsTest::noSlices);
        check.sentence("Promise 1", "PROFILES, BASE, BY, OVER as told", ChangesBoundsTest::asTold);
        check.sentence("Promise 2", "All as at first", ChangesBoundsTest::allAsAtFirst);
        check.sentence("Promise 2", "how many SLICES there were", ChangesBoundsTest::howManyThereWere);
    }

    private static void numbers() {
        check.sentence("Promise 3", "A number of a PROFILE (0 .. 99)", ChangesBoundsTest::numberOfProfile);
        check.sentence("Promise 3", "what it was", ChangesBoundsTest::whatItWas);
        check.sentence("Promise 3", "IllegalArgument", ChangesBoundsTest::profileRefuses);
        check.sentence("Promise 4", "BASE, BY, OVER (each 0 .. 1000)", ChangesBoundsTest::costsRange);
        check.sentence("Promise 4", "how many of them are other ones now", ChangesBoundsTest::howManyOthers);
        check.sentence("Promise 4", "IllegalArgument", ChangesBoundsTest::costsRefuses);
    }

    private static void slices() {
        check.sentence("Promise 5", "A SLICE more: its number", ChangesBoundsTest::sliceNumber);
        check.sentence("Promise 5", "IllegalState: there are 40", ChangesBoundsTest::sliceRefuses);
    }

    private static void notes() {
        check.sentence("Promise 6", "so much more WEIGHT (1 .. 200)", ChangesBoundsTest::weightRange);
        check.sentence("Promise 6", "how much it has then", ChangesBoundsTest::howMuchThen);
        check.sentence("Promise 6", "A SLICE gives a PITCH", ChangesBoundsTest::thatPitchAlone);
        check.sentence("Promise 6", "IllegalArgument", ChangesBoundsTest::noteRefusesArguments);
        check.sentence("Promise 6", "IllegalState: it would be above 200", ChangesBoundsTest::noteRefusesState);
    }

    private static void drops() {
        check.sentence("Promise 7", "The last SLICE goes", ChangesBoundsTest::lastGoes);
        check.sentence("Promise 7", "how many are left", ChangesBoundsTest::howManyLeft);
        check.sentence("Promise 7", "IllegalState: there is none", ChangesBoundsTest::dropRefuses);
    }

    private static void noSlices() {
        KeyWalks x = new KeyWalks();
        check.due("of(0)", 0, () -> x.of(0));
        SliceCalls.all().forEach((what, call) -> check.argument(what + " 0", () -> call.answer(x, 0)));
        check.state("drop", () -> x.drop());
        check.due("slice", 0, () -> x.slice());
    }

    private static void asTold() {
        KeyWalks other = Pieces.two();
        KeyWalks x = new KeyWalks();
        for (int step = 0; step < 12; step++) {
            int at = step;
            check.due("major " + step, Pieces.MAJOR[step], () -> x.profile(0, at, 99));
            check.due("minor " + step, Pieces.MINOR[step], () -> x.profile(1, at, 99));
        }
        check.due("BASE", 10, () -> x.of(1));
        check.due("BY", 5, () -> x.of(2));
        check.due("OVER", 2, () -> x.of(3));
        bounds.alike("an older object", Pieces.two(), other);
        bounds.alike("a newer object", new KeyWalks(), new KeyWalks());
    }

    private static void allAsAtFirst() {
        KeyWalks x = Pieces.two();
        x.least();
        x.clear();
        bounds.alike("two slices, cleared", new KeyWalks(), x);
        bounds.heard("clear and a slice", Pieces::two, y -> y.clear() + y.slice());
        KeyWalks empty = new KeyWalks();
        empty.clear();
        bounds.alike("a new one, cleared", new KeyWalks(), empty);
        KeyWalks full = Pieces.full();
        full.least();
        full.clear();
        for (int s = 0; s < 40; s++) {
            full.slice();
        }
        bounds.alike("forty slices, cleared and there again", Pieces.silent(40), full);
        KeyWalks other = new KeyWalks();
        Pieces.profiles(other, Pieces.numbers(99, 0), Pieces.numbers(0, 99));
        other.costs(0, 1000, 0);
        other.clear();
        bounds.alike("no slices, but other numbers, cleared", new KeyWalks(), other);
    }

    private static void howManyThereWere() {
        check.due("none", 0, () -> new KeyWalks().clear());
        check.due("one", 1, () -> Pieces.silent(1).clear());
        KeyWalks full = Pieces.silent(40);
        check.state("a slice too many", () -> full.slice());
        check.due("forty", 40, () -> full.clear());
        check.due("twice", 0, () -> full.clear());
        KeyWalks dropped = Pieces.silent(2);
        dropped.drop();
        check.due("one of two", 1, () -> dropped.clear());
    }

    private static void numberOfProfile() {
        bounds.range("number", 0, 99, Pieces::two, (x, number) -> x.profile(0, 0, number));
        KeyWalks x = Pieces.of("0:200");
        x.profile(0, 0, 99);
        check.due("99 is heard", 19800, () -> x.fit(0, 0));
        x.profile(0, 0, 0);
        check.due("0 is heard", 0, () -> x.fit(0, 0));
        check.due("and so is its scale", false, () -> x.pivot(0, 0, 0));
        x.profile(1, 11, 99);
        check.due("the last step of the last mode is heard", 19800, () -> x.fit(0, 13));
        bounds.heard("the greatest number", Pieces::two, y -> y.profile(0, 5, 99));
        bounds.heard("the least number", Pieces::two, y -> y.profile(1, 0, 0));
    }

    private static void whatItWas() {
        KeyWalks x = new KeyWalks();
        check.due("at first", 5, () -> x.profile(0, 0, 99));
        check.due("the greatest", 99, () -> x.profile(0, 0, 0));
        check.due("the least", 0, () -> x.profile(0, 0, 0));
        check.due("the same again", 0, () -> x.profile(0, 0, 1));
        // The last step of major and the first of minor are neighbours in no way.
        check.due("step 11 of major", 3, () -> x.profile(0, 11, 42));
        check.due("step 0 of minor", 5, () -> x.profile(1, 0, 43));
        check.due("step 11 of major again", 42, () -> x.profile(0, 11, 3));
        check.due("step 0 of minor again", 43, () -> x.profile(1, 0, 5));
        check.due("step 11 of minor", 3, () -> x.profile(1, 11, 3));
    }

    private static void profileRefuses() {
        bounds.range("mode", 0, 1, Pieces::two, (x, mode) -> x.profile(mode, 0, 1));
        bounds.range("mode of the last step", 0, 1, Pieces::two, (x, mode) -> x.profile(mode, 11, 1));
        bounds.range("step of major", 0, 11, Pieces::two, (x, step) -> x.profile(0, step, 1));
        bounds.range("step of minor", 0, 11, Pieces::two, (x, step) -> x.profile(1, step, 1));
        bounds.range("step, without slices", 0, 11, KeyWalks::new, (x, step) -> x.profile(1, step, 1));
        bounds.refused("all three wrong", Check.ARGUMENT, Pieces::two, x -> x.profile(2, 12, 100));
    }

    private static void costsRange() {
        bounds.range("BASE", 0, 1000, Pieces::two, (x, number) -> x.costs(number, 1, 1));
        bounds.range("BY", 0, 1000, Pieces::two, (x, number) -> x.costs(1, number, 1));
        bounds.range("OVER", 0, 1000, Pieces::two, (x, number) -> x.costs(1, 1, number));
        KeyWalks x = new KeyWalks();
        x.costs(0, 0, 0);
        check.due("all 0 are heard", 0, () -> x.turn(0, 15));
        x.costs(1000, 0, 0);
        check.due("BASE of 1000 is heard", 1000, () -> x.turn(0, 15));
        x.costs(0, 1000, 0);
        check.due("BY of 1000 is heard", 6000, () -> x.turn(0, 15));
        x.costs(0, 0, 1000);
        check.due("OVER of 1000 is heard", 1000, () -> x.turn(0, 15));
        bounds.heard("all 0", Pieces::two, y -> y.costs(0, 0, 0));
        bounds.heard("all 1000", Pieces::two, y -> y.costs(1000, 1000, 1000));
    }

    private static void howManyOthers() {
        for (int which = 0; which < 8; which++) {
            KeyWalks x = new KeyWalks();
            int base = (which & 1) == 0 ? 10 : 0;
            int by = (which & 2) == 0 ? 5 : 1000;
            int over = (which & 4) == 0 ? 2 : 3;
            String told = "costs(" + base + ", " + by + ", " + over + ")";
            check.due(told, Integer.bitCount(which), () -> x.costs(base, by, over));
            check.due(told + " again", 0, () -> x.costs(base, by, over));
            check.due(told + " and back", Integer.bitCount(which), () -> x.costs(10, 5, 2));
        }
        KeyWalks turned = new KeyWalks();
        check.due("the same numbers in other places", 3, () -> turned.costs(5, 2, 10));
    }

    private static void costsRefuses() {
        bounds.refused("BASE alone is wrong", Check.ARGUMENT, Pieces::two, x -> x.costs(1001, 1, 1));
        bounds.refused("BY alone is wrong", Check.ARGUMENT, Pieces::two, x -> x.costs(1, 1001, 1));
        bounds.refused("OVER alone is wrong", Check.ARGUMENT, Pieces::two, x -> x.costs(1, 1, 1001));
        bounds.refused("all are wrong", Check.ARGUMENT, Pieces::two, x -> x.costs(-1, -1, -1));
        bounds.refused("no slices", Check.ARGUMENT, KeyWalks::new, x -> x.costs(1, 1, -1));
    }

    private static void sliceNumber() {
        KeyWalks x = new KeyWalks();
        for (int s = 0; s < 40; s++) {
            check.due("slice", s, () -> x.slice());
            check.due("of(0)", s + 1, () -> x.of(0));
            check.due("count", 24L, () -> x.count());
        }
        x.drop();
        check.due("slice behind a drop", 39, () -> x.slice());
        x.clear();
        check.due("slice behind a clear", 0, () -> x.slice());
        bounds.heard("the first one", KeyWalks::new, y -> y.slice());
        bounds.heard("the third one", Pieces::two, y -> y.slice());
        bounds.heard("the last one", () -> Pieces.silent(39), y -> y.slice());
    }

    private static void sliceRefuses() {
        bounds.taken("39 of them", () -> Pieces.silent(39), x -> x.slice());
        bounds.refused("40 of them", Check.STATE, Pieces::full, x -> x.slice());
        bounds.refused("40 without weights", Check.STATE, () -> Pieces.silent(40), x -> x.slice());
        KeyWalks x = Pieces.silent(40);
        check.state("the 41st", () -> x.slice());
        check.state("the 41st again", () -> x.slice());
        check.due("drop", 39, () -> x.drop());
        check.due("the 40th", 39, () -> x.slice());
        check.state("the 41st once more", () -> x.slice());
        x.clear();
        check.due("slice of none", 0, () -> x.slice());
    }

    private static void weightRange() {
        bounds.range("weight", 1, 200, () -> Pieces.silent(1), (x, weight) -> x.note(0, 0, weight));
        bounds.range("weight of the last pitch of forty", 1, 200, () -> Pieces.silent(40),
            (x, weight) -> x.note(39, 11, weight));
        KeyWalks x = Pieces.silent(1);
        x.note(0, 0, 1);
        check.due("1 is heard", 5, () -> x.fit(0, 0));
        x.note(0, 1, 200);
        // Pitch 0 is step 11 above the tonic 1.
        check.due("200 is heard", 200 * 5 + 3, () -> x.fit(0, 1));
        bounds.heard("1", Pieces::two, y -> y.note(0, 0, 1));
        bounds.heard("200", Pieces::two, y -> y.note(1, 6, 200));
        bounds.heard("200 in the last of forty", Pieces::full, y -> y.note(39, 0, 200));
    }

    private static void howMuchThen() {
        KeyWalks x = Pieces.silent(1);
        for (int weight = 1; weight <= 200; weight++) {
            check.due("one more", weight, () -> x.note(0, 11, 1));
        }
        check.state("one more than 200", () -> x.note(0, 11, 1));
        check.due("200 at once", 200, () -> x.note(0, 0, 200));
        check.due("199", 199, () -> x.note(0, 1, 199));
        check.due("and 1", 200, () -> x.note(0, 1, 1));
        check.due("1", 1, () -> x.note(0, 2, 1));
        check.due("and 199", 200, () -> x.note(0, 2, 199));
    }

    private static void thatPitchAlone() {
        // The last pitch of a slice and the first one of the next are neighbours in no way.
        KeyWalks x = Pieces.silent(40);
        x.note(0, 11, 200);
        x.note(38, 11, 7);
        x.note(39, 0, 9);
        check.due("pitch 0 of slice 1", 1, () -> x.note(1, 0, 1));
        check.due("pitch 11 of slice 1", 1, () -> x.note(1, 11, 1));
        check.due("pitch 10 of slice 0", 1, () -> x.note(0, 10, 1));
        check.due("pitch 0 of slice 0", 1, () -> x.note(0, 0, 1));
        check.due("pitch 11 of slice 38", 8, () -> x.note(38, 11, 1));
        check.due("pitch 0 of slice 39", 10, () -> x.note(39, 0, 1));
        check.due("pitch 11 of slice 39", 1, () -> x.note(39, 11, 1));
    }

    private static void noteRefusesArguments() {
        bounds.range("slice of two", 0, 1, Pieces::two, (x, s) -> x.note(s, 0, 1));
        bounds.range("slice of forty", 0, 39, Pieces::full, (x, s) -> x.note(s, 6, 1));
        bounds.range("pitch", 0, 11, Pieces::two, (x, pitch) -> x.note(0, pitch, 1));
        bounds.range("pitch of the last slice", 0, 11, Pieces::two, (x, pitch) -> x.note(1, pitch, 1));
        bounds.refused("no slices", Check.ARGUMENT, KeyWalks::new, x -> x.note(0, 0, 1));
        bounds.refused("a slice that was dropped", Check.ARGUMENT, ChangesBoundsTest::oneWasDropped,
            x -> x.note(1, 0, 1));
        // Pitch 2 of slice 1 is full: the wrong number is told ahead of it.
        bounds.noneOf("weight of a full pitch", Pieces::two, (x, weight) -> x.note(1, 2, weight), -1, 0, 201);
        bounds.refused("all three wrong", Check.ARGUMENT, Pieces::two, x -> x.note(2, 12, 201));
    }

    private static KeyWalks oneWasDropped() {
        KeyWalks x = Pieces.two();
        x.drop();
        return x;
    }

    private static void noteRefusesState() {
        bounds.refused("200 and 1", Check.STATE, Pieces::two, x -> x.note(1, 2, 1));
        bounds.refused("200 and 200", Check.STATE, Pieces::two, x -> x.note(1, 2, 200));
        bounds.refused("4 and 197", Check.STATE, Pieces::two, x -> x.note(0, 0, 197));
        bounds.taken("4 and 196", Pieces::two, x -> x.note(0, 0, 196));
        bounds.refused("2 and 200", Check.STATE, Pieces::two, x -> x.note(0, 7, 200));
        bounds.refused("the last pitch of forty slices", Check.STATE, Pieces::full, x -> x.note(39, 11, 1));
        KeyWalks x = Pieces.of("0:100");
        check.state("100 and 101", () -> x.note(0, 0, 101));
        check.due("100 and 100", 200, () -> x.note(0, 0, 100));
    }

    private static void lastGoes() {
        KeyWalks x = Pieces.of("0:1", "5:1", "7:1");
        x.drop();
        check.argument("slice 2", () -> x.fit(2, 0));
        check.due("slice 0 is left", 5, () -> x.fit(0, 0));
        check.due("slice 1 is left", 5, () -> x.fit(1, 5));
        x.slice();
        check.due("slice 2 comes without weights", 0, () -> x.fit(2, 7));
        check.due("and takes new ones", 1, () -> x.note(2, 7, 1));
        KeyWalks one = Pieces.two();
        one.least();
        one.drop();
        one.drop();
        check.due("the only one", 0, () -> one.least());
        check.due("BASE is left", 11, () -> one.of(1));
        check.due("a number is left", 4, () -> one.profile(1, 10, 4));
        bounds.heard("one of two", Pieces::two, y -> y.drop());
        bounds.heard("one of forty", Pieces::full, y -> y.drop());
    }

    private static void howManyLeft() {
        KeyWalks x = Pieces.silent(40);
        for (int left = 39; left >= 0; left--) {
            check.due("drop", left, () -> x.drop());
            check.due("of(0)", left, () -> x.of(0));
        }
        check.state("drop of none", () -> x.drop());
    }

    private static void dropRefuses() {
        bounds.taken("one of them", () -> Pieces.silent(1), x -> x.drop());
        bounds.refused("a new object", Check.STATE, KeyWalks::new, x -> x.drop());
        bounds.refused("all dropped", Check.STATE, ChangesBoundsTest::allWereDropped, x -> x.drop());
        bounds.refused("all cleared", Check.STATE, ChangesBoundsTest::allWereCleared, x -> x.drop());
        KeyWalks x = new KeyWalks();
        check.state("drop", () -> x.drop());
        check.state("drop again", () -> x.drop());
        check.due("slice then", 0, () -> x.slice());
        check.due("drop then", 0, () -> x.drop());
    }

    private static KeyWalks allWereDropped() {
        KeyWalks x = oneWasDropped();
        x.drop();
        return x;
    }

    private static KeyWalks allWereCleared() {
        KeyWalks x = Pieces.two();
        x.clear();
        return x;
    }
}
