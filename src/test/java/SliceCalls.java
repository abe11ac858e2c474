import java.util.LinkedHashMap;
import java.util.Map;

/** Every call that names a slice, with all else in it right for any piece. */
final class SliceCalls {
    private SliceCalls() {
    }

    static Map<String, Bounds.OnNumber> all() {
        Map<String, Bounds.OnNumber> calls = new LinkedHashMap<>();
        // Pitch 8 is full in none of the pieces.
        calls.put("note of slice", (x, s) -> x.note(s, 8, 1));
        calls.put("fit of slice", (x, s) -> x.fit(s, 0));
        calls.put("cost of slice", (x, s) -> x.cost(s, 0));
        calls.put("key of slice", (x, s) -> x.key(s));
        calls.put("pick of slice", (x, s) -> x.pick(0, s));
        calls.put("through of slice", (x, s) -> x.through(s, 0));
        calls.put("near of slice", (x, s) -> x.near(s, 0));
        calls.put("sure of slice", (x, s) -> x.sure(s));
        calls.put("pivot of slice", (x, s) -> x.pivot(s, 0, 0));
        calls.put("whole of slice and itself", (x, s) -> x.whole(s, s));
        return calls;
    }
}
