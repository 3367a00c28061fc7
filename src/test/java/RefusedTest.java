import java.util.ArrayList;
import java.util.List;

/**
 * "Calls that are refused answer the first that fits, in the order in which they are told with the
 * call. What is refused changes nothing": each call, with each of its numbers at its least and
 * greatest right value and just beyond them, in every mixture.
 */
public final class RefusedTest {
    private static final int UNKNOWN = -1;
    private static final int OUTSIDE = -2;
    private static final int STATE = -3;

    private static final Numbers SLOT = Numbers.between(true, 0, 3);
    private static final Numbers KEY = Numbers.between(false, 0, 2400);
    private static final Numbers LEVEL = Numbers.between(false, 0, 4);
    private static final Numbers STEPS = Numbers.between(false, 0, 70);
    private static final Numbers COORDINATE = Numbers.between(false, -100, 100);
    private static final Numbers ZERO_OR_ONE = Numbers.between(false, 0, 1);
    private static final Numbers PLUS_OR_MINUS_ONE = new Numbers(false, new int[] {-1, 1},
        new int[] {-2, 0, 2, Integer.MIN_VALUE, Integer.MAX_VALUE});
    private static final Numbers ANY = new Numbers(false,
        new int[] {-1, 0, 1, Integer.MIN_VALUE, Integer.MAX_VALUE}, new int[] {});

    private static final String SETS = "14/1 2400/0 | 49/2 | 0/0 |  | ";
    private static final String SETS_OF_IMAGE = "14/1 | 49/2 |  | 2058/3 | ";

    private static final Check CHECK = new Check("RefusedTest");

    // Seven calls of setting up, and 14 for each refused one: within the 512 of an object.
    private static final int REFUSED_OF_ONE_OBJECT = 30;

    private static SevenKeys object = null;
    private static int refusedOfIt = 0;

    /** What a number of a call may be: some right ones, at the edges, and some wrong ones. */
    private record Numbers(boolean slot, int[] right, int[] wrong) {
        static Numbers between(boolean slot, int least, int greatest) {
            return new Numbers(slot, new int[] {least, greatest},
                new int[] {least - 1, greatest + 1, Integer.MIN_VALUE, Integer.MAX_VALUE});
        }
    }

    private interface Call {
        int on(SevenKeys x, int[] v);
    }

    public static void main(String[] args) {
        keys();
        sets();
        told();
        images();
        endOfObject();
        nothingKept();
        CHECK.end();
    }

    private static void keys() {
        eachMixture("point", (x, v) -> x.point(v[0], v[1]), KEY, ZERO_OR_ONE);
        eachMixture("key", (x, v) -> x.key(v[0], v[1]), COORDINATE, COORDINATE);
        eachMixture("next", (x, v) -> x.next(v[0], v[1]), KEY, Numbers.between(false, 1, 6));
        eachMixture("far", (x, v) -> x.far(v[0], v[1]), KEY, KEY);
        eachMixture("side", (x, v) -> x.side(v[0], v[1]), KEY, KEY);
        eachMixture("patch", (x, v) -> x.patch(v[0], v[1]), KEY, LEVEL);
        eachMixture("around", (x, v) -> x.around(v[0], v[1]), KEY, LEVEL);
        eachMixture("ring", (x, v) -> x.ring(v[0], v[1]), KEY, STEPS);
    }

    private static void sets() {
        eachMixture("put", (x, v) -> x.put(v[0], v[1], v[2], v[3]), SLOT, KEY, LEVEL, ZERO_OR_ONE);
        eachMixture("disk", (x, v) -> x.disk(v[0], v[1], v[2]), SLOT, KEY, STEPS);
        eachMixture("join", (x, v) -> x.join(v[0], v[1], v[2], v[3]), SLOT, SLOT, SLOT,
            Numbers.between(false, 0, 3));
        eachMixture("grow", (x, v) -> x.grow(v[0], v[1], v[2]), SLOT, SLOT, PLUS_OR_MINUS_ONE);
    }

    private static void told() {
        eachMixture("has", (x, v) -> x.has(v[0], v[1]), SLOT, KEY);
        eachMixture("about", (x, v) -> x.about(v[0], v[1]), SLOT, Numbers.between(false, 0, 6));
        eachMixture("packed", (x, v) -> x.packed(v[0], v[1], v[2]), SLOT, ANY, ZERO_OR_ONE);
        eachMixture("piece", (x, v) -> x.piece(v[0], v[1]), SLOT, KEY);
        eachMixture("way", (x, v) -> x.way(v[0], v[1], v[2]), SLOT, KEY, KEY);
        eachMixture("alike", (x, v) -> x.alike(v[0], v[1]), SLOT, SLOT);
    }

    private static void images() {
        eachMixture("image", (x, v) -> x.image(v[0]), ZERO_OR_ONE);
        eachMixture("restore", (x, v) -> x.restore(v[0]), new Numbers(false, new int[] {0},
            new int[] {-1, 2, Integer.MIN_VALUE, Integer.MAX_VALUE}));
        eachMixture("count", (x, v) -> x.count(v[0]), Numbers.between(false, 0, 2));
    }

    private static void eachMixture(String name, Call call, Numbers... numbers) {
        mix(name, call, numbers, new int[numbers.length], 0, 0);
    }

    /** Fills the values from one on in every way; due is the refusal of those before, or 0. */
    private static void mix(String name, Call call, Numbers[] numbers, int[] values, int from, int due) {
        if (from == numbers.length) {
            made(name, call, values, due);
            return;
        }
        for (int value : numbers[from].right()) {
            values[from] = value;
            mix(name, call, numbers, values, from + 1, due);
        }
        for (int value : numbers[from].wrong()) {
            values[from] = value;
            // UNKNOWN, the greater of the two, is told before OUTSIDE with every call.
            int own = numbers[from].slot() ? UNKNOWN : OUTSIDE;
            mix(name, call, numbers, values, from + 1, due == 0 ? own : Math.max(due, own));
        }
    }

    private static void made(String name, Call call, int[] values, int due) {
        String text = textOf(name, values);
        if (due == 0) {
            int answer = call.on(setUp(), values);
            CHECK.holds(text + " is not refused: " + answer, answer >= 0 || answer == SevenKeys.NONE);
            return;
        }
        SevenKeys x = objectForOne();
        CHECK.due(text, call.on(x, values), due);
        CHECK.same("the sets after " + text, Sight.ofAll(x), SETS + "kept 1");
    }

    private static String textOf(String name, int[] values) {
        List<String> parts = new ArrayList<>();
        for (int value : values) {
            parts.add(String.valueOf(value));
        }
        return name + "(" + String.join(", ", parts) + ")";
    }

    private static SevenKeys setUp() {
        SevenKeys x = new SevenKeys();
        x.put(0, 20, 1, 1);
        x.put(1, 97, 2, 1);
        x.put(3, 2400, 3, 1);
        x.image(0);
        x.put(0, 2400, 0, 1);
        x.put(2, 0, 0, 1);
        x.put(3, 0, 4, 0);
        return x;
    }

    private static SevenKeys objectForOne() {
        if (object == null || refusedOfIt == REFUSED_OF_ONE_OBJECT) {
            endOfObject();
            object = setUp();
            refusedOfIt = 0;
        }
        refusedOfIt++;
        return object;
    }

    /** What was refused has changed nothing of what is kept, either. */
    private static void endOfObject() {
        if (object != null) {
            CHECK.due("restore(1), nothing was kept", object.restore(1), STATE);
            CHECK.same("the sets after it", Sight.ofAll(object), SETS + "kept 1");
            CHECK.due("restore(0)", object.restore(0), 1);
            CHECK.same("the sets of the image", Sight.ofAll(object), SETS_OF_IMAGE + "kept 1");
        }
    }

    /** OUTSIDE is told before STATE with restore. */
    private static void nothingKept() {
        for (int k : new int[] {-1, 2, Integer.MIN_VALUE, Integer.MAX_VALUE}) {
            SevenKeys x = new SevenKeys();
            x.put(0, 0, 1, 1);
            CHECK.due("restore(" + k + "), nothing kept", x.restore(k), OUTSIDE);
            CHECK.due("image(" + k + ")", x.image(k), OUTSIDE);
            CHECK.same("the sets after it", Sight.ofAll(x), "0/1 |  |  |  | kept 0");
        }
        for (int k = 0; k <= 1; k++) {
            SevenKeys x = new SevenKeys();
            x.put(0, 0, 1, 1);
            CHECK.due("restore(" + k + "), nothing kept", x.restore(k), STATE);
            CHECK.same("the sets after it", Sight.ofAll(x), "0/1 |  |  |  | kept 0");
        }
    }
}
