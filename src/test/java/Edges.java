import java.util.HashMap;
import java.util.Map;
import java.util.function.Supplier;
import java.util.function.ToIntFunction;

/** What the tests of edges share: ranges of numbers, and calls that are refused and change nothing. */
final class Edges {
    static final int BAD = -1, NOT = -2, FULL = -3, NONE = -4, NULL = -11, CAST = -12, INDEX = -13, SIZE = -14;

    interface Ranged {
        int on(RumourDesk desk, int v);
    }

    private final Checks checks = new Checks();
    private final Map<Supplier<RumourDesk>, String> untouched = new HashMap<>();

    void due(String call, long want, long got) {
        checks.due(call, want, got);
    }

    void end() {
        checks.end();
    }

    /** A call answers so, again and again, and the desk looks then as if it had not been made. */
    void keeps(String name, int want, Supplier<RumourDesk> start, ToIntFunction<RumourDesk> call) {
        RumourDesk desk = start.get();
        due(name + " on " + start, want, call.applyAsInt(desk));
        due(name + " on " + start + " again", want, call.applyAsInt(desk));
        String looks = untouched.computeIfAbsent(start, s -> Looks.of(s, d -> 0));
        due(name + " on " + start + " changes nothing", 1, Looks.of(start, call).equals(looks) ? 1 : 0);
    }

    /** The numbers from low to high are taken; those next to them, and the farthest, are BAD. */
    void range(String name, int low, int high, Supplier<RumourDesk> start, Ranged call) {
        for (int v = low; v <= high; v++) {
            // Of a long range those next to its ends are enough.
            if (v < low + 12 || v > high - 12) {
                due(name + " " + v + " on " + start + " is taken", 1, call.on(start.get(), v) != BAD ? 1 : 0);
            }
        }
        for (int v : new int[] {low - 1, high + 1, Integer.MIN_VALUE, Integer.MAX_VALUE}) {
            keeps(name + " " + v, BAD, start, desk -> call.on(desk, v));
        }
    }

    /** A range that is the same whatever the desk holds. */
    void anywhere(String name, int low, int high, Ranged call) {
        for (Scene scene : Scene.values()) {
            range(name, low, high, scene, call);
        }
    }

    /** A range behind a person, a saying or a row that an empty desk does not have. */
    void behind(String name, int low, int high, Ranged call) {
        range(name, low, high, Scene.BUSY, call);
        range(name, low, high, Scene.FULL, call);
        for (int v : new int[] {low - 1, low, high, high + 1}) {
            keeps(name + " " + v, BAD, Scene.EMPTY, desk -> call.on(desk, v));
        }
    }

    void persons(String name, Ranged call) {
        for (Scene scene : Scene.values()) {
            range(name, 0, scene.persons - 1, scene, call);
        }
    }

    void sayings(String name, Ranged call) {
        for (Scene scene : Scene.values()) {
            range(name, 0, scene.sayings - 1, scene, call);
        }
    }
}
