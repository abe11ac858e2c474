import java.util.ArrayList;
import java.util.List;

/**
 * All that an object tells of itself, to hold it against that of another one. Numbers of profiles and weights can only
 * be read by changing them, so the object is used up. It takes at most 300 calls.
 */
final class Portrait {
    private final KeyWalks x;
    private final List<String> rows = new ArrayList<>();

    private Portrait(KeyWalks x) {
        this.x = x;
    }

    static List<String> of(KeyWalks x) {
        Portrait portrait = new Portrait(x);
        portrait.tell();
        return portrait.rows;
    }

    private void row(String what, Check.Call call) {
        rows.add(what + " = " + Check.told(call));
    }

    private void tell() {
        int slices = x.of(0);
        for (int what = 0; what <= 4; what++) {
            int at = what;
            row("of(" + what + ")", () -> x.of(at));
        }
        row("least", () -> x.least());
        row("count", () -> x.count());
        row("change(0)", () -> x.change(0));
        row("turn(0, 15)", () -> x.turn(0, 15));
        for (int s = 0; s < slices; s++) {
            int at = s;
            row("key(" + s + ")", () -> x.key(at));
        }
        // Not every one of forty slices: an object has 512 calls alone.
        int some = slices <= 4 ? 1 : 13;
        for (int s = 0; s < slices; s += some) {
            tellSlice(s);
        }
        for (int step = 0; step < 12; step++) {
            int at = step;
            row("major " + step, () -> x.profile(0, at, 0));
            row("minor " + step, () -> x.profile(1, at, 0));
        }
        for (int s = 0; s < slices; s += some) {
            tellWeights(s);
        }
    }

    private void tellSlice(int s) {
        row("pick(0, " + s + ")", () -> x.pick(0, s));
        row("pick(1, " + s + ")", () -> x.pick(1, s));
        row("near(" + s + ", 0)", () -> x.near(s, 0));
        row("near(" + s + ", 30)", () -> x.near(s, 30));
        row("sure(" + s + ")", () -> x.sure(s));
        row("pivot(" + s + ", 0, 7)", () -> x.pivot(s, 0, 7));
        row("whole(0, " + s + ")", () -> x.whole(0, s));
        for (int key = 0; key < 24; key += 3) {
            int at = key;
            row("through(" + s + ", " + key + ")", () -> x.through(s, at));
            row("fit(" + s + ", " + key + ")", () -> x.fit(s, at));
            row("cost(" + s + ", " + key + ")", () -> x.cost(s, at));
        }
    }

    private void tellWeights(int s) {
        for (int pitch = 0; pitch < 12; pitch++) {
            int at = pitch;
            row("weight and 1 of slice " + s + ", pitch " + pitch, () -> x.note(s, at, 1));
        }
    }
}
