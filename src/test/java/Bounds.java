import java.util.List;

/** Both sides of a bound, each on a piece of its own, so that no call leans on what another one has left. */
final class Bounds {
    interface Maker {
        KeyWalks make();
    }

    interface On {
        Object answer(KeyWalks x);
    }

    interface OnNumber {
        Object answer(KeyWalks x, int number);
    }

    private static final int LOWEST = Integer.MIN_VALUE;
    private static final int HIGHEST = Integer.MAX_VALUE;

    private final Check check;

    Bounds(Check check) {
        this.check = check;
    }

    /** An argument that goes from low to high, both within an int: its ends are taken, all beyond is refused. */
    void range(String what, int low, int high, Maker maker, OnNumber call) {
        taken(what + " " + low, maker, x -> call.answer(x, low));
        taken(what + " " + high, maker, x -> call.answer(x, high));
        noneOf(what, maker, call, LOWEST, low - 1, high + 1, HIGHEST);
    }

    /** Numbers of an argument that are refused one and all. */
    void noneOf(String what, Maker maker, OnNumber call, int... numbers) {
        for (int number : numbers) {
            refused(what + " " + number, Check.ARGUMENT, maker, x -> call.answer(x, number));
        }
    }

    void taken(String what, Maker maker, On call) {
        String answer = Check.told(() -> call.answer(maker.make()));
        boolean threw = answer.startsWith("throws.") || answer.startsWith("machine.");
        check.same(what, "an answer", threw ? answer : "an answer");
    }

    /** The call throws what is due, and the piece then tells just what one tells on which it was never tried. */
    void refused(String what, String due, Maker maker, On call) {
        KeyWalks fresh = maker.make();
        check.due(what, due, () -> call.answer(fresh));
        alike(what + ", then", maker.make(), fresh);
        // What an object has worked out before the call must outlive it as well.
        KeyWalks asked = asked(maker);
        check.due(what + " of one that was asked", due, () -> call.answer(asked));
        alike(what + " of one that was asked, then", maker.make(), asked);
    }

    /** A change is heard by a piece that was asked before it as by one that was not. */
    void heard(String what, Maker maker, On change) {
        KeyWalks fresh = maker.make();
        change.answer(fresh);
        KeyWalks asked = asked(maker);
        change.answer(asked);
        alike(what + ", of one that was asked", fresh, asked);
    }

    private static KeyWalks asked(Maker maker) {
        KeyWalks x = maker.make();
        x.least();
        Check.told(() -> x.through(0, 0));
        return x;
    }

    /** The two objects are used up. */
    void alike(String what, KeyWalks due, KeyWalks got) {
        List<String> dueRows = Portrait.of(due);
        List<String> gotRows = Portrait.of(got);
        check.same(what + " the portrait's length", dueRows.size(), gotRows.size());
        for (int at = 0; at < Math.min(dueRows.size(), gotRows.size()); at++) {
            check.same(what, dueRows.get(at), gotRows.get(at));
        }
    }
}
