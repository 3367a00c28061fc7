/** Promises 14 to 19: has, about, packed, piece, way, alike. */
public final class ToldTest {
    private static final int UNKNOWN = -1;
    private static final int OUTSIDE = -2;
    private static final int NONE = -6;
    private static final int[] NO_SLOTS = {-1, 4, Integer.MIN_VALUE, Integer.MAX_VALUE};
    private static final int[] NO_KEYS = {-1, 2401, Integer.MIN_VALUE, Integer.MAX_VALUE};

    private static final Check CHECK = new Check("ToldTest");

    public static void main(String[] args) {
        has();
        aboutEmpty();
        firstAndLastKey();
        aboutSome();
        aboutRefused();
        packedLevels();
        packedRefused();
        pieces();
        piecesByLeastKeys();
        pieceRefused();
        waysAround();
        wayRefused();
        alike();
        CHECK.end();
    }

    private static void has() {
        SevenKeys x = new SevenKeys();
        x.put(2, 0, 0, 1);
        x.put(2, 2400, 0, 1);
        CHECK.due("has(2, 0)", x.has(2, 0), 1);
        CHECK.due("has(2, 2400)", x.has(2, 2400), 1);
        CHECK.due("has(2, 1)", x.has(2, 1), 0);
        CHECK.due("has(1, 0)", x.has(1, 0), 0);
        CHECK.due("has(3, 0)", x.has(3, 0), 0);
        for (int slot : NO_SLOTS) {
            CHECK.due("has(no slot, 0)", x.has(slot, 0), UNKNOWN);
            CHECK.due("has(no slot, no key)", x.has(slot, -1), UNKNOWN);
        }
        for (int key : NO_KEYS) {
            CHECK.due("has(2, no key)", x.has(2, key), OUTSIDE);
        }
    }

    private static void aboutIs(SevenKeys x, int slot, int... due) {
        for (int what = 0; what < due.length; what++) {
            CHECK.due("about(" + slot + ", " + what + ")", x.about(slot, what), due[what]);
        }
    }

    private static void aboutEmpty() {
        aboutIs(new SevenKeys(), 3, 0, 0, 0, 0, 0, NONE, NONE);
    }

    private static void firstAndLastKey() {
        for (int key : new int[] {0, 2400}) {
            SevenKeys x = new SevenKeys();
            x.put(0, key, 0, 1);
            aboutIs(x, 0, 1, 1, 6, 1, 1, key, key);
            packedIs(x, 0, 0, key, 0);
            CHECK.due("piece(0, " + key + ")", x.piece(0, key), 0);
            CHECK.due("way(0, " + key + ", the same)", x.way(0, key, key), 0);
            x.put(0, 1000, 0, 1);
            CHECK.due("piece(0, 1000)", x.piece(0, 1000), key == 0 ? 1 : 0);
            x.put(1, 1000, 0, 1);
            CHECK.due("alike, but for " + key, x.alike(0, 1), 2);
            CHECK.due("alike, but for " + key, x.alike(1, 0), 1);
            x.put(0, 1000, 0, 0);
            x.put(1, 1001, 0, 1);
            CHECK.due("alike, apart, by " + key, x.alike(0, 1), 3);
            x.put(0, 1000, 0, 1);
            CHECK.due("alike, one together, by " + key, x.alike(0, 1), 4);
        }
    }

    private static void aboutSome() {
        SevenKeys x = new SevenKeys();
        x.put(0, 8, 0, 1);
        aboutIs(x, 0, 1, 1, 6, 1, 1, 8, 8);
        // 1 and 2 are next to one another, 4 to neither: with it they are two pieces.
        x.put(1, 1, 0, 1);
        x.put(1, 2, 0, 1);
        aboutIs(x, 1, 2, 2, 10, 1, 2, 1, 2);
        x.put(1, 4, 0, 1);
        aboutIs(x, 1, 3, 3, 16, 2, 2, 1, 4);
        // Six around a hole: the hole counts for the border, too.
        x.put(2, 0, 1, 1);
        x.put(2, 0, 0, 0);
        aboutIs(x, 2, 6, 6, 24, 1, 6, 1, 6);
        x.put(2, 2400, 0, 1);
        aboutIs(x, 2, 7, 7, 30, 2, 6, 1, 2400);
        x.put(3, 0, 4, 1);
        aboutIs(x, 3, 2401, 1, 486, 1, 2401, 0, 2400);
    }

    private static void aboutRefused() {
        SevenKeys x = new SevenKeys();
        for (int slot : NO_SLOTS) {
            CHECK.due("about(no slot, 0)", x.about(slot, 0), UNKNOWN);
            CHECK.due("about(no slot, 7)", x.about(slot, 7), UNKNOWN);
        }
        for (int what : new int[] {-1, 7, Integer.MIN_VALUE, Integer.MAX_VALUE}) {
            CHECK.due("about(0, " + what + ")", x.about(0, what), OUTSIDE);
        }
    }

    private static void packedIs(SevenKeys x, int slot, int i, int key, int level) {
        CHECK.due("packed(" + slot + ", " + i + ", 0)", x.packed(slot, i, 0), key);
        CHECK.due("packed(" + slot + ", " + i + ", 1)", x.packed(slot, i, 1), level);
    }

    private static void packedLevels() {
        SevenKeys x = new SevenKeys();
        packedIs(x, 0, 0, NONE, NONE);
        x.put(0, 5, 0, 1);
        x.put(0, 7, 1, 1);
        x.put(0, 49, 2, 1);
        x.put(0, 343, 3, 1);
        packedIs(x, 0, 0, 5, 0);
        packedIs(x, 0, 1, 7, 1);
        packedIs(x, 0, 2, 49, 2);
        packedIs(x, 0, 3, 343, 3);
        packedIs(x, 0, 4, NONE, NONE);
        packedIs(x, 0, -1, NONE, NONE);
        packedIs(x, 0, Integer.MIN_VALUE, NONE, NONE);
        packedIs(x, 0, Integer.MAX_VALUE, NONE, NONE);
        // Seven patches become a greater one with the last hex of it.
        for (int key = 0; key < 48; key++) {
            x.put(1, key, 0, 1);
        }
        CHECK.due("about(1, 1)", x.about(1, 1), 12);
        packedIs(x, 1, 5, 35, 1);
        packedIs(x, 1, 6, 42, 0);
        packedIs(x, 1, 11, 47, 0);
        x.put(1, 48, 0, 1);
        CHECK.due("about(1, 1)", x.about(1, 1), 1);
        packedIs(x, 1, 0, 0, 2);
        // Seven hexes with keys one after another are no patch, unless it begins with the first.
        for (int key = 3; key < 13; key++) {
            x.put(2, key, 0, 1);
        }
        CHECK.due("about(2, 1)", x.about(2, 1), 10);
        packedIs(x, 2, 4, 7, 0);
        x.put(3, 0, 4, 1);
        packedIs(x, 3, 0, 0, 4);
        packedIs(x, 3, 1, NONE, NONE);
    }

    private static void packedRefused() {
        SevenKeys x = new SevenKeys();
        x.put(0, 0, 4, 1);
        for (int slot : NO_SLOTS) {
            CHECK.due("packed(no slot, ..)", x.packed(slot, 0, 0), UNKNOWN);
            CHECK.due("packed(no slot, .., 2)", x.packed(slot, -1, 2), UNKNOWN);
        }
        for (int what : new int[] {-1, 2, Integer.MIN_VALUE, Integer.MAX_VALUE}) {
            CHECK.due("packed(0, 0, what is wrong)", x.packed(0, 0, what), OUTSIDE);
            CHECK.due("packed(0, -1, what is wrong)", x.packed(0, -1, what), OUTSIDE);
        }
    }

    private static void pieces() {
        SevenKeys x = new SevenKeys();
        x.put(0, 1, 0, 1);
        x.put(0, 3, 0, 1);
        x.put(0, 5, 0, 1);
        CHECK.due("about(0, 3)", x.about(0, 3), 3);
        CHECK.due("piece(0, 1)", x.piece(0, 1), 0);
        CHECK.due("piece(0, 3)", x.piece(0, 3), 1);
        CHECK.due("piece(0, 5)", x.piece(0, 5), 2);
        CHECK.due("piece(0, 0)", x.piece(0, 0), NONE);
        CHECK.due("piece(1, 1)", x.piece(1, 1), NONE);
        x.put(0, 4, 0, 1);
        CHECK.due("about(0, 3), 3 and 5 joined", x.about(0, 3), 2);
        CHECK.due("about(0, 4), 3 and 5 joined", x.about(0, 4), 3);
        CHECK.due("piece(0, 5), by 4", x.piece(0, 5), 1);
        x.put(0, 0, 0, 1);
        CHECK.due("piece(0, 5), by 0", x.piece(0, 5), 0);
    }

    /** 12 is next to 1, but not to 8: with 1 its piece comes before that of 8. */
    private static void piecesByLeastKeys() {
        SevenKeys x = new SevenKeys();
        x.put(0, 12, 0, 1);
        x.put(0, 8, 0, 1);
        CHECK.due("piece(0, 8), alone", x.piece(0, 8), 0);
        CHECK.due("piece(0, 12)", x.piece(0, 12), 1);
        x.put(0, 1, 0, 1);
        CHECK.due("piece(0, 12), with 1", x.piece(0, 12), 0);
        CHECK.due("piece(0, 1)", x.piece(0, 1), 0);
        CHECK.due("piece(0, 8), behind it", x.piece(0, 8), 1);
    }

    private static void pieceRefused() {
        SevenKeys x = new SevenKeys();
        x.put(0, 0, 4, 1);
        for (int slot : NO_SLOTS) {
            CHECK.due("piece(no slot, 0)", x.piece(slot, 0), UNKNOWN);
            CHECK.due("piece(no slot, no key)", x.piece(slot, 2401), UNKNOWN);
        }
        for (int key : NO_KEYS) {
            CHECK.due("piece(0, no key)", x.piece(0, key), OUTSIDE);
        }
    }

    private static void waysAround() {
        SevenKeys x = new SevenKeys();
        x.put(0, 0, 1, 1);
        CHECK.due("way(0, 1, 4)", x.way(0, 1, 4), 2);
        x.put(0, 0, 0, 0);
        CHECK.due("way(0, 1, 4), around", x.way(0, 1, 4), 3);
        x.put(0, 2, 0, 0);
        CHECK.due("way(0, 1, 3), the long way", x.way(0, 1, 3), 4);
        CHECK.due("way(0, 3, 1), back", x.way(0, 3, 1), 4);
        CHECK.due("way(0, 3, 3)", x.way(0, 3, 3), 0);
        x.put(0, 5, 0, 0);
        CHECK.due("way(0, 1, 3), cut", x.way(0, 1, 3), NONE);
        CHECK.due("way(0, 1, 6)", x.way(0, 1, 6), 1);
        CHECK.due("way(0, 1, 5), not of it", x.way(0, 1, 5), NONE);
        CHECK.due("way(0, 5, 1), not of it", x.way(0, 5, 1), NONE);
        CHECK.due("way(0, 5, 5), not of it", x.way(0, 5, 5), NONE);
        x.put(1, 0, 4, 1);
        CHECK.due("way(1, 0, 2400)", x.way(1, 0, 2400), 31);
        CHECK.due("way(0, 1, 6), again", x.way(0, 1, 6), 1);
    }

    private static void wayRefused() {
        SevenKeys x = new SevenKeys();
        x.put(0, 0, 4, 1);
        for (int slot : NO_SLOTS) {
            CHECK.due("way(no slot, ..)", x.way(slot, 0, 0), UNKNOWN);
            CHECK.due("way(nothing right)", x.way(slot, -1, 2401), UNKNOWN);
        }
        for (int key : NO_KEYS) {
            CHECK.due("way(0, no key, 0)", x.way(0, key, 0), OUTSIDE);
            CHECK.due("way(0, 0, no key)", x.way(0, 0, key), OUTSIDE);
            CHECK.due("way(1, no key, ..), of an empty one", x.way(1, key, key), OUTSIDE);
        }
    }

    private static void alike() {
        SevenKeys x = new SevenKeys();
        CHECK.due("alike, both empty", x.alike(0, 1), 0);
        CHECK.due("alike, the same slot", x.alike(2, 2), 0);
        x.put(0, 5, 1, 1);
        CHECK.due("alike, the second one empty", x.alike(0, 1), 2);
        CHECK.due("alike, the first one empty", x.alike(1, 0), 1);
        CHECK.due("alike, with itself", x.alike(0, 0), 0);
        x.put(1, 2400, 0, 1);
        CHECK.due("alike, apart", x.alike(0, 1), 3);
        CHECK.due("alike, apart", x.alike(1, 0), 3);
        x.put(1, 6, 0, 1);
        CHECK.due("alike, some together", x.alike(0, 1), 4);
        CHECK.due("alike, some together", x.alike(1, 0), 4);
        x.put(1, 2400, 0, 0);
        CHECK.due("alike, around", x.alike(0, 1), 2);
        CHECK.due("alike, within", x.alike(1, 0), 1);
        x.put(1, 6, 1, 1);
        CHECK.due("alike, the same", x.alike(1, 0), 0);
        for (int slot : NO_SLOTS) {
            CHECK.due("alike(no slot, 0)", x.alike(slot, 0), UNKNOWN);
            CHECK.due("alike(0, no slot)", x.alike(0, slot), UNKNOWN);
            CHECK.due("alike(no slot, no slot)", x.alike(slot, slot), UNKNOWN);
        }
    }
}
