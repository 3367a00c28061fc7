/** Promises 1 and 10 to 13: a new object, put, disk, join, grow. */
public final class SetsTest {
    private static final int UNKNOWN = -1;
    private static final int OUTSIDE = -2;
    private static final int NONE = -6;
    private static final int[] NO_SLOTS = {-1, 4, Integer.MIN_VALUE, Integer.MAX_VALUE};
    private static final int[] NO_KEYS = {-1, 2401, Integer.MIN_VALUE, Integer.MAX_VALUE};

    private static final Check CHECK = new Check("SetsTest");

    public static void main(String[] args) {
        newObject();
        putComesAndGoes();
        putRefused();
        diskTakesThePlace();
        diskRefused();
        joinWays();
        joinIntoItsOwn();
        joinRefused();
        growAndShrink();
        growAtTheEdge();
        growRefused();
        CHECK.end();
    }

    private static void newObject() {
        SevenKeys x = new SevenKeys();
        for (int slot = 0; slot < 4; slot++) {
            CHECK.due("about(slot, 0), new", x.about(slot, 0), 0);
            CHECK.due("about(slot, 5), new", x.about(slot, 5), NONE);
            CHECK.due("packed(slot, 0, 0), new", x.packed(slot, 0, 0), NONE);
        }
        CHECK.due("count(0), new", x.count(0), 0);
        CHECK.due("count(1), new", x.count(1), 0);
        CHECK.due("count(2), new", x.count(2), 0);
        CHECK.due("restore(0), new", x.restore(0), -3);
        CHECK.due("restore(1), new", x.restore(1), -3);
        x.put(0, 0, 4, 1);
        x.image(0);
        CHECK.due("count(0), another", new SevenKeys().count(0), 0);
        CHECK.due("count(2), another", new SevenKeys().count(2), 0);
    }

    private static void putComesAndGoes() {
        SevenKeys x = new SevenKeys();
        CHECK.due("put(0, 2400, 0, 1)", x.put(0, 2400, 0, 1), 1);
        CHECK.due("put(0, 2400, 0, 1), again", x.put(0, 2400, 0, 1), 1);
        CHECK.due("put(0, 2399, 1, 1)", x.put(0, 2399, 1, 1), 7);
        CHECK.due("put(0, 2395, 2, 1)", x.put(0, 2395, 2, 1), 49);
        CHECK.due("about(0, 5)", x.about(0, 5), 2352);
        CHECK.due("put(0, 2395, 3, 1)", x.put(0, 2395, 3, 1), 343);
        CHECK.due("about(0, 5)", x.about(0, 5), 2058);
        CHECK.due("put(0, 1000, 4, 1)", x.put(0, 1000, 4, 1), 2401);
        CHECK.due("put(0, 10, 1, 0)", x.put(0, 10, 1, 0), 2394);
        CHECK.due("has(0, 6)", x.has(0, 6), 1);
        CHECK.due("has(0, 7)", x.has(0, 7), 0);
        CHECK.due("has(0, 13)", x.has(0, 13), 0);
        CHECK.due("has(0, 14)", x.has(0, 14), 1);
        CHECK.due("put(0, 0, 2, 0)", x.put(0, 0, 2, 0), 2352);
        CHECK.due("put(0, 7, 1, 0), again", x.put(0, 7, 1, 0), 2352);
        CHECK.due("about(1, 0)", x.about(1, 0), 0);
        CHECK.due("put(3, 5, 0, 0), of an empty one", x.put(3, 5, 0, 0), 0);
        CHECK.due("put(3, 5, 0, 1)", x.put(3, 5, 0, 1), 1);
        CHECK.due("about(0, 0)", x.about(0, 0), 2352);
        CHECK.due("put(0, 9, 4, 0)", x.put(0, 9, 4, 0), 0);
        CHECK.due("about(3, 0)", x.about(3, 0), 1);
    }

    private static void putRefused() {
        SevenKeys x = new SevenKeys();
        x.put(0, 20, 1, 1);
        for (int slot : NO_SLOTS) {
            CHECK.due("put(no slot)", x.put(slot, 0, 0, 1), UNKNOWN);
            CHECK.due("put(nothing right)", x.put(slot, -1, 9, 9), UNKNOWN);
        }
        for (int key : NO_KEYS) {
            CHECK.due("put(no key)", x.put(0, key, 4, 1), OUTSIDE);
        }
        for (int level : new int[] {-1, 5, Integer.MIN_VALUE, Integer.MAX_VALUE}) {
            CHECK.due("put(no level)", x.put(0, 0, level, 1), OUTSIDE);
        }
        for (int on : new int[] {-1, 2, Integer.MIN_VALUE, Integer.MAX_VALUE}) {
            CHECK.due("put(on is wrong)", x.put(0, 20, 1, on), OUTSIDE);
            CHECK.due("put(on is wrong)", x.put(0, 0, 1, on), OUTSIDE);
        }
        stillSeven(x);
    }

    /** The set of slot 0 is the patch of 14, as it was before the refused calls. */
    private static void stillSeven(SevenKeys x) {
        CHECK.due("about(0, 0), as before", x.about(0, 0), 7);
        CHECK.due("packed(0, 0, 0), as before", x.packed(0, 0, 0), 14);
        CHECK.due("packed(0, 0, 1), as before", x.packed(0, 0, 1), 1);
        CHECK.due("count(0), as before", x.count(0), 7);
        CHECK.due("count(1), as before", x.count(1), 1);
    }

    private static void diskTakesThePlace() {
        SevenKeys x = new SevenKeys();
        x.put(0, 2400, 3, 1);
        CHECK.due("disk(0, 8, 0)", x.disk(0, 8, 0), 1);
        CHECK.due("has(0, 8)", x.has(0, 8), 1);
        CHECK.due("has(0, 2400)", x.has(0, 2400), 0);
        for (int n = 0; n <= 20; n++) {
            CHECK.due("disk(1, 0, " + n + ")", x.disk(1, 0, n), 1 + 3 * n * (n + 1));
        }
        CHECK.due("disk(2, 2400, 1)", x.disk(2, 2400, 1), 4);
        CHECK.due("disk(2, 2400, 70)", x.disk(2, 2400, 70), 2401);
        CHECK.due("about(0, 0)", x.about(0, 0), 1);
    }

    private static void diskRefused() {
        SevenKeys x = new SevenKeys();
        x.put(0, 20, 1, 1);
        for (int slot : NO_SLOTS) {
            CHECK.due("disk(no slot)", x.disk(slot, 0, 3), UNKNOWN);
            CHECK.due("disk(nothing right)", x.disk(slot, 2401, 71), UNKNOWN);
        }
        for (int key : NO_KEYS) {
            CHECK.due("disk(no key)", x.disk(0, key, 3), OUTSIDE);
        }
        for (int n : new int[] {-1, 71, Integer.MIN_VALUE, Integer.MAX_VALUE}) {
            CHECK.due("disk(n is wrong)", x.disk(0, 0, n), OUTSIDE);
        }
        stillSeven(x);
    }

    private static void joinWays() {
        // The first one: 0 to 6 and 20; the second one: 6, 20 and 30.
        int[][] members = {{0, 6, 20, 30}, {6, 20}, {0, 5}, {0, 5, 30}};
        int[][] strangers = {{7, 19, 31}, {0, 5, 30}, {6, 20, 30}, {6, 20, 7}};
        int[] sizes = {9, 2, 6, 7};
        for (int way = 0; way <= 3; way++) {
            SevenKeys x = new SevenKeys();
            x.put(0, 0, 1, 1);
            x.put(0, 20, 0, 1);
            x.put(1, 6, 0, 1);
            x.put(1, 20, 0, 1);
            x.put(1, 30, 0, 1);
            x.put(2, 1000, 2, 1);
            CHECK.due("join(2, 0, 1, " + way + ")", x.join(2, 0, 1, way), sizes[way]);
            CHECK.due("about(2, 0)", x.about(2, 0), sizes[way]);
            for (int key : members[way]) {
                CHECK.due("has(2, " + key + "), way " + way, x.has(2, key), 1);
            }
            for (int key : strangers[way]) {
                CHECK.due("has(2, " + key + "), way " + way, x.has(2, key), 0);
            }
            CHECK.due("about(0, 0), after it", x.about(0, 0), 8);
            CHECK.due("about(1, 0), after it", x.about(1, 0), 3);
        }
    }

    private static void joinIntoItsOwn() {
        int[] same = {7, 7, 0, 0};
        int[] intoSecond = {9, 1, 6, 8};
        for (int way = 0; way <= 3; way++) {
            SevenKeys x = new SevenKeys();
            x.put(0, 0, 1, 1);
            x.put(1, 6, 0, 1);
            x.put(1, 7, 0, 1);
            x.put(1, 8, 0, 1);
            CHECK.due("join(1, 0, 1, " + way + ")", x.join(1, 0, 1, way), intoSecond[way]);
            CHECK.due("join(0, 0, 0, " + way + ")", x.join(0, 0, 0, way), same[way]);
        }
    }

    private static void joinRefused() {
        SevenKeys x = new SevenKeys();
        x.put(0, 20, 1, 1);
        for (int slot : NO_SLOTS) {
            CHECK.due("join(no slot, ..)", x.join(slot, 0, 0, 3), UNKNOWN);
            CHECK.due("join(.., no slot, ..)", x.join(0, slot, 0, 3), UNKNOWN);
            CHECK.due("join(.., no slot, way)", x.join(0, 0, slot, 3), UNKNOWN);
            CHECK.due("join(nothing right)", x.join(0, 0, slot, 4), UNKNOWN);
        }
        for (int way : new int[] {-1, 4, Integer.MIN_VALUE, Integer.MAX_VALUE}) {
            CHECK.due("join(way is wrong)", x.join(0, 0, 1, way), OUTSIDE);
            CHECK.due("join(way is wrong)", x.join(1, 0, 0, way), OUTSIDE);
        }
        stillSeven(x);
    }

    private static void growAndShrink() {
        SevenKeys x = new SevenKeys();
        x.put(0, 0, 0, 1);
        for (int n = 1; n <= 12; n++) {
            CHECK.due("grow(0, 0, 1)", x.grow(0, 0, 1), 1 + 3 * n * (n + 1));
            x.disk(1, 0, n);
            CHECK.due("alike(0, 1), grown to a disk", x.alike(0, 1), 0);
        }
        for (int n = 11; n >= 0; n--) {
            CHECK.due("grow(0, 0, -1)", x.grow(0, 0, -1), 1 + 3 * n * (n + 1));
        }
        CHECK.due("has(0, 0)", x.has(0, 0), 1);
        CHECK.due("grow(0, 0, -1), of one hex", x.grow(0, 0, -1), 0);
        CHECK.due("grow(0, 0, 1), of none", x.grow(0, 0, 1), 0);
        CHECK.due("grow(2, 1, 1)", x.grow(2, 1, 1), 547);
        CHECK.due("about(1, 0), after it", x.about(1, 0), 469);
        CHECK.due("grow(1, 0, 1), empty in its place", x.grow(1, 0, 1), 0);
    }

    private static void growAtTheEdge() {
        SevenKeys x = new SevenKeys();
        x.put(0, 2400, 0, 1);
        CHECK.due("grow(1, 0, 1)", x.grow(1, 0, 1), 4);
        x.put(0, 0, 4, 1);
        CHECK.due("grow(2, 0, 1), of the sheet", x.grow(2, 0, 1), 2401);
        // What lies outside of the sheet is of no set, so that its edge goes.
        CHECK.due("grow(2, 0, -1), of the sheet", x.grow(2, 0, -1), 2161);
        CHECK.due("has(2, 2400)", x.has(2, 2400), 0);
        // A hole of one hex: it and all around it go.
        x.put(3, 0, 2, 1);
        x.grow(3, 3, 1);
        CHECK.due("grow(2, 3, -1)", x.grow(2, 3, -1), 49);
        x.put(3, 0, 0, 0);
        CHECK.due("grow(2, 3, -1), with a hole", x.grow(2, 3, -1), 42);
    }

    private static void growRefused() {
        SevenKeys x = new SevenKeys();
        x.put(0, 20, 1, 1);
        for (int slot : NO_SLOTS) {
            CHECK.due("grow(no slot, ..)", x.grow(slot, 0, 1), UNKNOWN);
            CHECK.due("grow(.., no slot, ..)", x.grow(0, slot, 1), UNKNOWN);
            CHECK.due("grow(nothing right)", x.grow(0, slot, 0), UNKNOWN);
        }
        for (int n : new int[] {0, 2, -2, Integer.MIN_VALUE, Integer.MAX_VALUE}) {
            CHECK.due("grow(n is wrong)", x.grow(0, 0, n), OUTSIDE);
            CHECK.due("grow(n is wrong)", x.grow(1, 0, n), OUTSIDE);
        }
        stillSeven(x);
    }
}
