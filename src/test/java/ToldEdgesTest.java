/** The edges that promises 14 to 19 name, each with a test of its own; refused calls: RefusedTest. */
public final class ToldEdgesTest {
    private static final int UNKNOWN = -1;
    private static final int OUTSIDE = -2;
    private static final int NONE = -6;
    private static final int LAST = 2400;
    private static final int ALL = 2401;

    private static final Check CHECK = new Check("ToldEdgesTest");

    public static void main(String[] args) {
        hasOfEmptyAndFull();
        hasFirstAndLastKey();
        hasRefusedInItsOrder();
        aboutEmpty();
        aboutFull();
        aboutEmptiedAgain();
        aboutOneHex();
        borderAtTheEdge();
        borderOfAHole();
        aboutMostPieces();
        greatestPieceComesLater();
        leastAndGreatestKeyGo();
        aboutRefusedInItsOrder();
        packedEmpty();
        packedFull();
        packedFirstAndLast();
        packedBelowZeroAndBeyond();
        packedByRisingKeys();
        packedInNoGreaterPatch();
        packedOnlyWholePatches();
        packedMost();
        packedRefusedInItsOrder();
        pieceOfEmptyAndFull();
        pieceNotOfTheSet();
        pieceByLeastKeys();
        pieceLast();
        pieceRefusedInItsOrder();
        wayOfOneHex();
        wayNotOfTheSet();
        wayThereIsNone();
        wayWithinTheSheet();
        wayTheLongOne();
        wayRefusedInItsOrder();
        alikeEmpty();
        alikeFull();
        alikeOneSlotTwice();
        alikeByOneHex();
        alikeNothingTogether();
        alikeNoneOfThese();
        alikeRefused();
        CHECK.end();
    }

    private static void aboutIs(SevenKeys x, int slot, int... due) {
        for (int what = 0; what < due.length; what++) {
            CHECK.due("about(" + slot + ", " + what + ")", x.about(slot, what), due[what]);
        }
    }

    private static SevenKeys holding(int slot, int... keys) {
        SevenKeys x = new SevenKeys();
        for (int key : keys) {
            x.put(slot, key, 0, 1);
        }
        return x;
    }

    private static SevenKeys full(int slot) {
        SevenKeys x = new SevenKeys();
        x.put(slot, 0, 4, 1);
        return x;
    }

    /** Slot 0 holds the middle of each patch of level 1: none of the 343 is next to another. */
    private static SevenKeys middles() {
        SevenKeys x = new SevenKeys();
        for (int key = 0; key < ALL; key += 7) {
            x.put(0, key, 0, 1);
        }
        return x;
    }

    // ---- promise 14

    private static void hasOfEmptyAndFull() {
        SevenKeys x = full(3);
        for (int key : new int[] {0, 1, 1200, 2399, LAST}) {
            CHECK.due("has(0, " + key + "), empty", x.has(0, key), 0);
            CHECK.due("has(3, " + key + "), full", x.has(3, key), 1);
        }
        x.put(3, 0, 4, 0);
        CHECK.due("has(3, 0), emptied", x.has(3, 0), 0);
        CHECK.due("has(3, 2400), emptied", x.has(3, LAST), 0);
    }

    private static void hasFirstAndLastKey() {
        SevenKeys x = holding(0, 0, LAST);
        CHECK.due("has(0, 0)", x.has(0, 0), 1);
        CHECK.due("has(0, 1)", x.has(0, 1), 0);
        CHECK.due("has(0, 2399)", x.has(0, 2399), 0);
        CHECK.due("has(0, 2400)", x.has(0, LAST), 1);
    }

    private static void hasRefusedInItsOrder() {
        SevenKeys x = full(0);
        CHECK.due("has(-1, 0)", x.has(-1, 0), UNKNOWN);
        CHECK.due("has(4, 0)", x.has(4, 0), UNKNOWN);
        CHECK.due("has(4, 2401)", x.has(4, ALL), UNKNOWN);
        CHECK.due("has(0, -1)", x.has(0, -1), OUTSIDE);
        CHECK.due("has(0, 2401)", x.has(0, ALL), OUTSIDE);
    }

    // ---- promise 15

    private static void aboutEmpty() {
        for (int slot = 0; slot <= 3; slot++) {
            aboutIs(new SevenKeys(), slot, 0, 0, 0, 0, 0, NONE, NONE);
        }
    }

    private static void aboutFull() {
        for (int slot = 0; slot <= 3; slot++) {
            aboutIs(full(slot), slot, ALL, 1, 486, 1, ALL, 0, LAST);
        }
    }

    private static void aboutEmptiedAgain() {
        SevenKeys x = full(1);
        x.put(1, 0, 4, 0);
        aboutIs(x, 1, 0, 0, 0, 0, 0, NONE, NONE);
    }

    private static void aboutOneHex() {
        for (int key : new int[] {0, 6, 7, LAST}) {
            aboutIs(holding(2, key), 2, 1, 1, 6, 1, 1, key, key);
        }
    }

    /** Points next to the set count whether they are of the sheet or not. */
    private static void borderAtTheEdge() {
        SevenKeys x = full(0);
        x.put(0, LAST, 0, 0);
        // Three sides of 2400 led off the sheet; now three others have it next to them.
        CHECK.due("border without 2400", x.about(0, 2), 486);
        x.put(1, LAST, 1, 1);
        CHECK.due("border of the last patch", x.about(1, 2), 18);
        x.put(2, LAST, 3, 1);
        CHECK.due("border of the last patch of level 3", x.about(2, 2), 162);
        x.put(3, 0, 3, 1);
        CHECK.due("border of the inmost of level 3", x.about(3, 2), 162);
        // The sheet's edge alone: within it as without.
        x.put(0, LAST, 0, 1);
        x.grow(1, 0, -1);
        x.join(2, 0, 1, 2);
        aboutIs(x, 2, 240, 240, 960, 1, 240, 400, LAST);
    }

    private static void borderOfAHole() {
        SevenKeys x = full(0);
        x.put(0, 0, 0, 0);
        aboutIs(x, 0, 2400, 24, 492, 1, 2400, 1, LAST);
        x.put(1, 0, 1, 1);
        x.put(1, 0, 0, 0);
        aboutIs(x, 1, 6, 6, 24, 1, 6, 1, 6);
    }

    private static void aboutMostPieces() {
        aboutIs(middles(), 0, 343, 343, 2058, 343, 1, 0, 2394);
    }

    private static void greatestPieceComesLater() {
        SevenKeys x = holding(0, 1, 3);
        CHECK.due("greatest of two of one hex", x.about(0, 4), 1);
        x.put(0, LAST, 1, 1);
        aboutIs(x, 0, 9, 3, 30, 3, 7, 1, LAST);
        x.put(0, 100, 0, 1);
        CHECK.due("greatest between others", x.about(0, 4), 7);
    }

    private static void leastAndGreatestKeyGo() {
        SevenKeys x = full(0);
        x.put(0, 0, 0, 0);
        x.put(0, LAST, 0, 0);
        CHECK.due("least key without 0", x.about(0, 5), 1);
        CHECK.due("greatest key without 2400", x.about(0, 6), 2399);
        x.put(0, 0, 3, 0);
        x.put(0, LAST, 3, 0);
        CHECK.due("least key without the first 343", x.about(0, 5), 343);
        CHECK.due("greatest key without the last 343", x.about(0, 6), 2057);
    }

    private static void aboutRefusedInItsOrder() {
        SevenKeys x = full(0);
        CHECK.due("about(-1, 0)", x.about(-1, 0), UNKNOWN);
        CHECK.due("about(4, 0)", x.about(4, 0), UNKNOWN);
        CHECK.due("about(4, 7)", x.about(4, 7), UNKNOWN);
        CHECK.due("about(0, -1)", x.about(0, -1), OUTSIDE);
        CHECK.due("about(0, 7)", x.about(0, 7), OUTSIDE);
    }

    // ---- promise 16

    private static void packedIs(SevenKeys x, int slot, int i, int key, int level) {
        CHECK.due("packed(" + slot + ", " + i + ", 0)", x.packed(slot, i, 0), key);
        CHECK.due("packed(" + slot + ", " + i + ", 1)", x.packed(slot, i, 1), level);
    }

    private static void packedEmpty() {
        SevenKeys x = new SevenKeys();
        for (int i = -1; i <= 1; i++) {
            packedIs(x, 0, i, NONE, NONE);
        }
    }

    private static void packedFull() {
        SevenKeys x = full(3);
        packedIs(x, 3, -1, NONE, NONE);
        packedIs(x, 3, 0, 0, 4);
        packedIs(x, 3, 1, NONE, NONE);
    }

    private static void packedFirstAndLast() {
        SevenKeys x = holding(0, 0, LAST);
        packedIs(x, 0, 0, 0, 0);
        packedIs(x, 0, 1, LAST, 0);
        packedIs(x, 0, 2, NONE, NONE);
        int[] least = {LAST, 2394, 2352, 2058};
        for (int level = 0; level <= 3; level++) {
            SevenKeys y = new SevenKeys();
            y.put(0, LAST, level, 1);
            packedIs(y, 0, 0, least[level], level);
            packedIs(y, 0, 1, NONE, NONE);
        }
    }

    private static void packedBelowZeroAndBeyond() {
        SevenKeys x = holding(0, 3, 5);
        for (int i : new int[] {-1, -2, Integer.MIN_VALUE, 2, 3, ALL, Integer.MAX_VALUE}) {
            packedIs(x, 0, i, NONE, NONE);
        }
        packedIs(x, 0, 0, 3, 0);
        packedIs(x, 0, 1, 5, 0);
    }

    /** By their keys, not by their levels, nor in the order in which they came. */
    private static void packedByRisingKeys() {
        SevenKeys x = new SevenKeys();
        x.put(0, LAST, 0, 1);
        x.put(0, 2058, 2, 1);
        x.put(0, 686, 3, 1);
        x.put(0, 49, 0, 1);
        x.put(0, 14, 1, 1);
        x.put(0, 6, 0, 1);
        CHECK.same("slot 0", Sight.ofSlot(x, 0), "6/0 14/1 49/0 686/3 2058/2 2400/0");
    }

    private static void packedInNoGreaterPatch() {
        SevenKeys x = new SevenKeys();
        for (int patch = 0; patch < 7; patch++) {
            CHECK.due("patches before the next one", x.about(0, 1), patch);
            x.put(0, 343 * patch, 3, 1);
        }
        CHECK.same("seven of level 3", Sight.ofSlot(x, 0), "0/4");
        x.put(0, LAST, 0, 0);
        CHECK.same("without 2400", Sight.ofSlot(x, 0), "0/3 343/3 686/3 1029/3 1372/3 1715/3 2058/2 2107/2"
            + " 2156/2 2205/2 2254/2 2303/2 2352/1 2359/1 2366/1 2373/1 2380/1 2387/1"
            + " 2394/0 2395/0 2396/0 2397/0 2398/0 2399/0");
        x.put(0, LAST, 0, 1);
        CHECK.same("with 2400 again", Sight.ofSlot(x, 0), "0/4");
    }

    /** Seven keys, or seven patches, in a row are no patch if it does not begin with them. */
    private static void packedOnlyWholePatches() {
        SevenKeys x = new SevenKeys();
        x.put(0, 0, 1, 1);
        x.put(0, 7, 0, 1);
        x.put(0, 0, 0, 0);
        CHECK.same("1 to 7", Sight.ofSlot(x, 0), "1/0 2/0 3/0 4/0 5/0 6/0 7/0");
        x.put(1, 0, 2, 1);
        x.put(1, 49, 1, 1);
        x.put(1, 0, 1, 0);
        CHECK.same("7 to 55", Sight.ofSlot(x, 1), "7/1 14/1 21/1 28/1 35/1 42/1 49/1");
    }

    private static void packedMost() {
        SevenKeys x = middles();
        packedIs(x, 0, 0, 0, 0);
        packedIs(x, 0, 342, 2394, 0);
        packedIs(x, 0, 343, NONE, NONE);
        x.put(1, 0, 4, 1);
        CHECK.due("all but the middles", x.join(1, 1, 0, 2), 2058);
        CHECK.due("about(1, 1)", x.about(1, 1), 2058);
        packedIs(x, 1, 0, 1, 0);
        packedIs(x, 1, 2057, LAST, 0);
        packedIs(x, 1, 2058, NONE, NONE);
    }

    private static void packedRefusedInItsOrder() {
        SevenKeys x = full(0);
        CHECK.due("packed(-1, 0, 0)", x.packed(-1, 0, 0), UNKNOWN);
        CHECK.due("packed(4, 0, 0)", x.packed(4, 0, 0), UNKNOWN);
        CHECK.due("packed(4, 0, 2)", x.packed(4, 0, 2), UNKNOWN);
        CHECK.due("packed(4, -1, 0)", x.packed(4, -1, 0), UNKNOWN);
        CHECK.due("packed(0, 0, -1)", x.packed(0, 0, -1), OUTSIDE);
        CHECK.due("packed(0, 0, 2)", x.packed(0, 0, 2), OUTSIDE);
        CHECK.due("packed(0, -1, 2)", x.packed(0, -1, 2), OUTSIDE);
        CHECK.due("packed(1, 0, 2), empty", x.packed(1, 0, 2), OUTSIDE);
    }

    // ---- promise 17

    private static void pieceOfEmptyAndFull() {
        SevenKeys x = full(1);
        for (int key : new int[] {0, 1200, LAST}) {
            CHECK.due("piece(0, " + key + "), empty", x.piece(0, key), NONE);
            CHECK.due("piece(1, " + key + "), full", x.piece(1, key), 0);
        }
    }

    private static void pieceNotOfTheSet() {
        SevenKeys x = holding(0, 1, 3);
        CHECK.due("piece(0, 0), next to both", x.piece(0, 0), NONE);
        CHECK.due("piece(0, 2), next to both", x.piece(0, 2), NONE);
        CHECK.due("piece(0, 2400)", x.piece(0, LAST), NONE);
        x.put(0, 1, 0, 0);
        CHECK.due("piece(0, 1), gone", x.piece(0, 1), NONE);
        CHECK.due("piece(0, 3), the first one now", x.piece(0, 3), 0);
    }

    /** 12 is next to 1, 8 is not: the piece of 12 comes first by the key 1, though 8 is less. */
    private static void pieceByLeastKeys() {
        SevenKeys x = holding(0, 12, 8);
        CHECK.due("piece(0, 8)", x.piece(0, 8), 0);
        CHECK.due("piece(0, 12)", x.piece(0, 12), 1);
        x.put(0, 1, 0, 1);
        CHECK.due("piece(0, 12), with 1", x.piece(0, 12), 0);
        CHECK.due("piece(0, 8), behind it", x.piece(0, 8), 1);
        x.put(0, 7, 0, 1);
        CHECK.due("piece(0, 8), put together by 7", x.piece(0, 8), 0);
        CHECK.due("about(0, 3)", x.about(0, 3), 1);
    }

    private static void pieceLast() {
        SevenKeys x = middles();
        CHECK.due("piece(0, 0)", x.piece(0, 0), 0);
        CHECK.due("piece(0, 7)", x.piece(0, 7), 1);
        CHECK.due("piece(0, 2394)", x.piece(0, 2394), 342);
        CHECK.due("piece(0, 2400)", x.piece(0, LAST), NONE);
        x.put(0, LAST, 0, 1);
        CHECK.due("piece(0, 2400), with 2394", x.piece(0, LAST), 342);
        SevenKeys y = holding(0, 0, LAST);
        CHECK.due("piece(0, 0)", y.piece(0, 0), 0);
        CHECK.due("piece(0, 2400)", y.piece(0, LAST), 1);
    }

    private static void pieceRefusedInItsOrder() {
        SevenKeys x = full(0);
        CHECK.due("piece(-1, 0)", x.piece(-1, 0), UNKNOWN);
        CHECK.due("piece(4, 0)", x.piece(4, 0), UNKNOWN);
        CHECK.due("piece(4, -1)", x.piece(4, -1), UNKNOWN);
        CHECK.due("piece(0, -1)", x.piece(0, -1), OUTSIDE);
        CHECK.due("piece(0, 2401)", x.piece(0, ALL), OUTSIDE);
        CHECK.due("piece(1, 2401), empty", x.piece(1, ALL), OUTSIDE);
    }

    // ---- promise 18

    private static void wayOfOneHex() {
        for (int key : new int[] {0, 8, LAST}) {
            SevenKeys x = holding(0, key);
            x.put(1, 0, 4, 1);
            CHECK.due("way(0, " + key + ", the same)", x.way(0, key, key), 0);
            CHECK.due("way(1, " + key + ", the same), full", x.way(1, key, key), 0);
            CHECK.due("way(2, " + key + ", the same), empty", x.way(2, key, key), NONE);
        }
    }

    private static void wayNotOfTheSet() {
        SevenKeys x = holding(0, 1);
        CHECK.due("way(0, 1, 2), to is not of it", x.way(0, 1, 2), NONE);
        CHECK.due("way(0, 2, 1), from is not of it", x.way(0, 2, 1), NONE);
        CHECK.due("way(0, 2, 2), it is not of it", x.way(0, 2, 2), NONE);
        CHECK.due("way(0, 2, 3), neither is", x.way(0, 2, 3), NONE);
        CHECK.due("way(1, 1, 2), empty", x.way(1, 1, 2), NONE);
        x.put(0, 2, 0, 1);
        CHECK.due("way(0, 1, 2)", x.way(0, 1, 2), 1);
    }

    private static void wayThereIsNone() {
        SevenKeys x = holding(0, 1, 4);
        CHECK.due("way(0, 1, 4)", x.way(0, 1, 4), NONE);
        CHECK.due("way(0, 4, 1)", x.way(0, 4, 1), NONE);
        x.put(0, 0, 0, 1);
        CHECK.due("way(0, 1, 4), over 0", x.way(0, 1, 4), 2);
        SevenKeys y = holding(0, 0, LAST);
        CHECK.due("way(0, 0, 2400)", y.way(0, 0, LAST), NONE);
    }

    /** Where the sheet's edge bends in, the way is longer than FAR. */
    private static void wayWithinTheSheet() {
        SevenKeys x = full(0);
        CHECK.due("far(409, 449)", x.far(409, 449), 3);
        CHECK.due("way(0, 409, 449)", x.way(0, 409, 449), 4);
        CHECK.due("way(0, 449, 409)", x.way(0, 449, 409), 4);
        CHECK.due("way(0, 435, 2123)", x.way(0, 435, 2123), 19);
        CHECK.due("way(0, 0, 2400)", x.way(0, 0, LAST), 31);
        CHECK.due("way(0, 2400, 0)", x.way(0, LAST, 0), 31);
    }

    /** A ring of 60: without one of them, those beside it are 58 steps apart. */
    private static void wayTheLongOne() {
        SevenKeys x = new SevenKeys();
        x.disk(0, 0, 10);
        x.disk(1, 0, 9);
        CHECK.due("the ring", x.join(0, 0, 1, 2), 60);
        int one = x.key(9, 1);
        int other = x.key(10, -1);
        CHECK.due("way over the one between", x.way(0, one, other), 2);
        x.put(0, x.key(10, 0), 0, 0);
        CHECK.due("way without it", x.way(0, one, other), 58);
        CHECK.due("way back", x.way(0, other, one), 58);
        x.put(0, x.key(-10, 0), 0, 0);
        CHECK.due("way, cut twice", x.way(0, one, other), NONE);
    }

    private static void wayRefusedInItsOrder() {
        SevenKeys x = full(0);
        CHECK.due("way(-1, 0, 0)", x.way(-1, 0, 0), UNKNOWN);
        CHECK.due("way(4, 0, 0)", x.way(4, 0, 0), UNKNOWN);
        CHECK.due("way(4, -1, 0)", x.way(4, -1, 0), UNKNOWN);
        CHECK.due("way(4, 0, 2401)", x.way(4, 0, ALL), UNKNOWN);
        for (int wrong : new int[] {-1, ALL}) {
            CHECK.due("way(0, " + wrong + ", 0)", x.way(0, wrong, 0), OUTSIDE);
            CHECK.due("way(0, 0, " + wrong + ")", x.way(0, 0, wrong), OUTSIDE);
            CHECK.due("way(0, " + wrong + ", the same)", x.way(0, wrong, wrong), OUTSIDE);
            CHECK.due("way(1, 0, " + wrong + "), empty", x.way(1, 0, wrong), OUTSIDE);
            CHECK.due("way(1, " + wrong + ", 0), empty", x.way(1, wrong, 0), OUTSIDE);
        }
    }

    // ---- promise 19

    private static void alikeBothWays(SevenKeys x, int due, int dueBack) {
        CHECK.due("alike(0, 1)", x.alike(0, 1), due);
        CHECK.due("alike(1, 0)", x.alike(1, 0), dueBack);
    }

    private static void alikeEmpty() {
        alikeBothWays(new SevenKeys(), 0, 0);
        alikeBothWays(holding(0, 5), 2, 1);
        alikeBothWays(holding(1, 5), 1, 2);
        alikeBothWays(full(0), 2, 1);
    }

    private static void alikeFull() {
        SevenKeys x = full(0);
        x.put(1, 0, 4, 1);
        alikeBothWays(x, 0, 0);
        x.put(1, LAST, 0, 0);
        alikeBothWays(x, 2, 1);
        x.put(0, 0, 0, 0);
        alikeBothWays(x, 4, 4);
    }

    private static void alikeOneSlotTwice() {
        SevenKeys x = full(1);
        x.put(2, LAST, 0, 1);
        x.put(3, 0, 2, 1);
        for (int slot = 0; slot <= 3; slot++) {
            CHECK.due("alike(" + slot + ", the same)", x.alike(slot, slot), 0);
        }
    }

    /** One hex more, the first or the last of all, makes the greater one. */
    private static void alikeByOneHex() {
        for (int key : new int[] {0, LAST}) {
            SevenKeys x = holding(0, 1000, key);
            x.put(1, 1000, 0, 1);
            alikeBothWays(x, 2, 1);
            x.put(1, key, 0, 1);
            alikeBothWays(x, 0, 0);
            x.put(0, key, 0, 0);
            alikeBothWays(x, 1, 2);
        }
    }

    private static void alikeNothingTogether() {
        SevenKeys x = holding(0, 0);
        x.put(1, LAST, 0, 1);
        alikeBothWays(x, 3, 3);
        x.put(1, 1, 0, 1);
        alikeBothWays(x, 3, 3);
        // All of the sheet between them, and still none together.
        x.put(1, 0, 4, 1);
        x.put(1, 0, 0, 0);
        alikeBothWays(x, 3, 3);
        x.put(0, 0, 0, 0);
        alikeBothWays(x, 1, 2);
    }

    private static void alikeNoneOfThese() {
        for (int together : new int[] {0, 1000, LAST}) {
            SevenKeys x = holding(0, together, 5);
            x.put(1, together, 0, 1);
            x.put(1, 6, 0, 1);
            alikeBothWays(x, 4, 4);
        }
    }

    private static void alikeRefused() {
        SevenKeys x = full(0);
        for (int slot : new int[] {-1, 4}) {
            CHECK.due("alike(no slot, 0)", x.alike(slot, 0), UNKNOWN);
            CHECK.due("alike(0, no slot)", x.alike(0, slot), UNKNOWN);
            CHECK.due("alike(no slot, the same)", x.alike(slot, slot), UNKNOWN);
        }
    }
}
