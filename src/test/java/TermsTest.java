import java.util.ArrayDeque;
import java.util.Arrays;
import java.util.Deque;
import java.util.Set;
import java.util.TreeSet;

/**
 * What the document says ahead of its promises, sentence by sentence. The terms are held to one
 * another by what calls tell, without Model.java, so that no reading of it is taken over.
 */
public final class TermsTest {
    private static final int NONE = -6;
    private static final int ALL = 2401;
    private static final int[] SIZES = {1, 7, 49, 343, 2401};
    private static final int[] SIDE_A = {0, 1, 0, -1, -1, 0, 1};
    private static final int[] SIDE_B = {0, 0, 1, 1, 0, -1, -1};

    // Points are laid out around the middle of a square, far enough for any two hexes.
    private static final int MIDDLE = 70;
    private static final int WIDTH = 141;

    // How many sets holding(..) knows.
    private static final int SETS = 9;

    private static final Check CHECK = new Check("TermsTest");
    private static final Fresh FRESH = new Fresh();

    private static SevenKeys x() {
        return FRESH.x();
    }

    public static void main(String[] args) {
        objectIsUsedFor512Calls();
        sidesAreAsTold();
        farIsTheLeastNumberOfSteps();
        keysHaveFourFigures();
        sheetIsAllPointsOfKeys();
        patchesHaveTheSameFirstFigures();
        sevenPatchesMakeAGreaterOne();
        slotsHoldASetEach();
        for (int which = 0; which < SETS; which++) {
            packedIsAsTold(which);
            packedTellsTheWholeSet(which);
            borderIsCountedBySides(which);
            piecesComeTogetherBySteps(which);
            piecesAreNumberedByLeastKeys(which);
        }
        CHECK.end();
    }

    // ---- what it is

    /** Each of 512 calls is answered as due, the last one, too. */
    private static void objectIsUsedFor512Calls() {
        SevenKeys x = new SevenKeys();
        for (int call = 1; call < Fresh.CALLS; call++) {
            // Slot 0 comes after the others, and begins with key 1.
            int due = call / 4 + (call % 4 == 0 ? 0 : 1);
            CHECK.due("call " + call + ": put", x.put(call % 4, call / 4, 0, 1), due);
        }
        CHECK.due("call 512: count(0)", x.count(0), 128);
    }

    // ---- points, sides, far

    private static int aOf(int key) {
        return x().point(key, 0) - 1000;
    }

    private static int bOf(int key) {
        return x().point(key, 1) - 1000;
    }

    private static void sidesAreAsTold() {
        for (int key = 0; key < ALL; key++) {
            int a = aOf(key);
            int b = bOf(key);
            for (int side = 1; side <= 6; side++) {
                int there = x().key(a + SIDE_A[side], b + SIDE_B[side]);
                CHECK.due("next(" + key + ", " + side + ")", x().next(key, side), there);
                if (there != NONE) {
                    CHECK.due("side(" + key + ", " + there + ")", x().side(key, there), side);
                }
            }
        }
    }

    /** Steps from the middle to every point around it, counted one by one. */
    private static int[] stepsFromTheMiddle() {
        int[] steps = new int[WIDTH * WIDTH];
        Arrays.fill(steps, NONE);
        Deque<Integer> open = new ArrayDeque<>();
        steps[MIDDLE * WIDTH + MIDDLE] = 0;
        open.add(MIDDLE * WIDTH + MIDDLE);
        while (!open.isEmpty()) {
            int at = open.remove();
            for (int side = 1; side <= 6; side++) {
                int a = at / WIDTH + SIDE_A[side];
                int b = at % WIDTH + SIDE_B[side];
                if (a >= 0 && a < WIDTH && b >= 0 && b < WIDTH && steps[a * WIDTH + b] == NONE) {
                    steps[a * WIDTH + b] = steps[at] + 1;
                    open.add(a * WIDTH + b);
                }
            }
        }
        return steps;
    }

    private static void farIsTheLeastNumberOfSteps() {
        int[] steps = stepsFromTheMiddle();
        for (int one : new int[] {0, 400, 409, 801, 1201, 1234, 2000, 2400}) {
            int a = aOf(one);
            int b = bOf(one);
            int[] rings = new int[71];
            for (int other = 0; other < ALL; other++) {
                int due = steps[(aOf(other) - a + MIDDLE) * WIDTH + bOf(other) - b + MIDDLE];
                CHECK.due("far(" + one + ", " + other + ")", x().far(one, other), due);
                rings[due]++;
            }
            for (int n = 0; n <= 70; n++) {
                CHECK.due("ring(" + one + ", " + n + ")", x().ring(one, n), rings[n]);
            }
        }
    }

    // ---- keys, the sheet, patches

    /** One figure more, behind those of a key: its point is turned, and the figure's side added. */
    private static void keysHaveFourFigures() {
        CHECK.due("a of 0", aOf(0), 0);
        CHECK.due("b of 0", bOf(0), 0);
        for (int front = 0; front < 343; front++) {
            int a = aOf(front);
            int b = bOf(front);
            for (int figure = 0; figure <= 6; figure++) {
                int key = 7 * front + figure;
                CHECK.due("a of " + key, aOf(key), 2 * a - b + SIDE_A[figure]);
                CHECK.due("b of " + key, bOf(key), a + 3 * b + SIDE_B[figure]);
            }
        }
    }

    /** No two keys have one point, and what is no key's point is not of the sheet. */
    private static void sheetIsAllPointsOfKeys() {
        Set<Integer> keys = new TreeSet<>();
        for (int a = -100; a <= 100; a++) {
            for (int b = -100; b <= 100; b++) {
                int key = x().key(a, b);
                if (key != NONE) {
                    CHECK.holds("no other point has the key " + key, keys.add(key));
                    CHECK.due("a of " + key, aOf(key), a);
                    CHECK.due("b of " + key, bOf(key), b);
                }
            }
        }
        CHECK.due("hexes of the sheet", keys.size(), ALL);
    }

    private static String figures(int key) {
        return "" + key / 343 + key / 49 % 7 + key / 7 % 7 + key % 7;
    }

    private static void patchesHaveTheSameFirstFigures() {
        for (int level = 0; level <= 4; level++) {
            for (int key = 0; key < ALL; key++) {
                int least = x().patch(key, level);
                CHECK.same("first figures of " + key, figures(least).substring(0, 4 - level),
                    figures(key).substring(0, 4 - level));
                CHECK.same("the other figures of the least key", figures(least).substring(4 - level),
                    "0000".substring(4 - level));
            }
        }
    }

    private static void sevenPatchesMakeAGreaterOne() {
        for (int level = 0; level < 4; level++) {
            for (int key = 0; key < ALL; key += 97) {
                SevenKeys x = new SevenKeys();
                int greater = x.patch(key, level + 1);
                for (int i = 0; i < 7; i++) {
                    int least = greater + i * SIZES[level];
                    CHECK.due("patch " + least + " comes", x.put(0, least, level, 1), (i + 1) * SIZES[level]);
                }
                CHECK.due("the greater one", x.put(1, key, level + 1, 1), SIZES[level + 1]);
                CHECK.due("they are the same", x.alike(0, 1), 0);
            }
        }
    }

    // ---- sets

    private static void slotsHoldASetEach() {
        for (int slot = 0; slot <= 3; slot++) {
            SevenKeys x = new SevenKeys();
            x.put(slot, 8, 1, 1);
            for (int other = 0; other <= 3; other++) {
                CHECK.due("slot " + other + ", 7 in slot " + slot, x.about(other, 0), other == slot ? 7 : 0);
                CHECK.due("put again what it has", x.put(slot, 8, 0, 1), 7);
            }
        }
    }

    /** Slot 0 of a new object holds one of some sets, by a few calls; slot 1 is empty then. */
    private static SevenKeys holding(int which) {
        SevenKeys x = new SevenKeys();
        switch (which) {
            case 0:
                break;
            case 1:
                x.disk(0, 2400, 4);
                break;
            case 2:
                x.disk(0, 0, 4);
                x.disk(1, 3, 2);
                x.join(0, 0, 1, 2);
                break;
            case 3:
                x.put(0, 800, 1, 1);
                x.put(0, 2, 1, 1);
                x.put(0, 3, 0, 0);
                x.put(0, 1234, 0, 1);
                x.put(0, 12, 0, 1);
                break;
            case 4:
                x.put(0, 450, 2, 1);
                x.put(0, 441, 0, 0);
                break;
            case 5:
                x.put(0, 0, 4, 1);
                break;
            case 6:
                x.put(0, 0, 4, 1);
                x.put(0, 700, 0, 0);
                break;
            case 7:
                x.put(0, 1029, 3, 1);
                x.put(0, 50, 2, 1);
                x.put(0, 2400, 0, 1);
                break;
            default:
                for (int key = 20; key < 70; key += 2) {
                    x.put(0, key, 0, 1);
                }
                break;
        }
        x.put(1, 0, 4, 0);
        return x;
    }

    /** Hands out an object that holds one of the sets, and a new one in time. */
    private static final class Holding {
        private static final int CALLS = 400;

        private final int which;
        private SevenKeys object = null;
        private int calls = 0;

        Holding(int which) {
            this.which = which;
        }

        SevenKeys x() {
            if (object == null || calls == CALLS) {
                object = holding(which);
                calls = 0;
            }
            calls++;
            return object;
        }
    }

    private static boolean[] hexesOf(int which) {
        Holding holding = new Holding(which);
        boolean[] hexes = new boolean[ALL];
        for (int key = 0; key < ALL; key++) {
            hexes[key] = holding.x().has(0, key) == 1;
        }
        return hexes;
    }

    private static boolean isOf(boolean[] hexes, int key) {
        return key != NONE && hexes[key];
    }

    /** By rising keys; each lies in the set, and the next greater patch does not. */
    private static void packedIsAsTold(int which) {
        boolean[] hexes = hexesOf(which);
        SevenKeys x = holding(which);
        int patches = x.about(0, 1);
        int end = 0;
        for (int i = 0; i < patches; i++) {
            int least = x.packed(0, i, 0);
            int level = x.packed(0, i, 1);
            CHECK.holds("set " + which + ": " + least + " lies behind the one before", least >= end);
            CHECK.due("its least key", x().patch(least, level), least);
            end = least + SIZES[level];
            CHECK.holds("set " + which + ": " + least + " lies in it", allOf(hexes, least, level));
            if (level < 4) {
                int greater = x().patch(least, level + 1);
                CHECK.holds("set " + which + ": no greater one does", !allOf(hexes, greater, level + 1));
            }
        }
        CHECK.due("set " + which + ": none behind the last", x.packed(0, patches, 0), NONE);
    }

    private static boolean allOf(boolean[] hexes, int least, int level) {
        for (int key = least; key < least + SIZES[level]; key++) {
            if (!hexes[key]) {
                return false;
            }
        }
        return true;
    }

    /** The patches, put into an empty slot, make the set again. */
    private static void packedTellsTheWholeSet(int which) {
        SevenKeys x = holding(which);
        int patches = x.about(0, 1);
        int hexes = 0;
        for (int i = 0; i < patches; i++) {
            int level = x.packed(0, i, 1);
            hexes += SIZES[level];
            CHECK.due("set " + which + ": patch " + i, x.put(1, x.packed(0, i, 0), level, 1), hexes);
        }
        CHECK.due("set " + which + ": made again", x.alike(0, 1), 0);
        CHECK.due("set " + which + ": as many hexes", x.about(0, 0), hexes);
    }

    private static void borderIsCountedBySides(int which) {
        boolean[] hexes = hexesOf(which);
        int border = 0;
        for (int key = 0; key < ALL; key++) {
            for (int side = 1; hexes[key] && side <= 6; side++) {
                border += isOf(hexes, x().next(key, side)) ? 0 : 1;
            }
        }
        CHECK.due("set " + which + ": border", holding(which).about(0, 2), border);
    }

    /** Each hex has the piece of those next to it; two of one piece have a way, others none. */
    private static void piecesComeTogetherBySteps(int which) {
        boolean[] hexes = hexesOf(which);
        Holding holding = new Holding(which);
        int[] pieces = piecesOf(which, hexes);
        int first = holding.x().about(0, 5);
        for (int key = 0; key < ALL; key++) {
            for (int side = 1; hexes[key] && side <= 6; side++) {
                int there = x().next(key, side);
                if (isOf(hexes, there)) {
                    CHECK.due("set " + which + ": piece of " + there, pieces[there], pieces[key]);
                }
            }
            if (hexes[key]) {
                boolean together = pieces[key] == pieces[first];
                CHECK.due("set " + which + ": way from " + first + " to " + key,
                    holding.x().way(0, first, key) == NONE ? 0 : 1, together ? 1 : 0);
            }
        }
    }

    private static int[] piecesOf(int which, boolean[] hexes) {
        Holding holding = new Holding(which);
        int[] pieces = new int[ALL];
        Arrays.fill(pieces, NONE);
        for (int key = 0; key < ALL; key++) {
            if (hexes[key]) {
                pieces[key] = holding.x().piece(0, key);
            }
        }
        return pieces;
    }

    /** By rising keys, a piece that was not seen before has the next number, from 0 on. */
    private static void piecesAreNumberedByLeastKeys(int which) {
        boolean[] hexes = hexesOf(which);
        SevenKeys x = holding(which);
        int[] pieces = piecesOf(which, hexes);
        int[] sizes = new int[ALL];
        int seen = 0;
        for (int key = 0; key < ALL; key++) {
            if (hexes[key]) {
                CHECK.holds("set " + which + ": piece of " + key + " is " + pieces[key],
                    pieces[key] >= 0 && pieces[key] <= seen);
                seen = Math.max(seen, pieces[key] + 1);
                sizes[Math.max(0, pieces[key])]++;
            }
        }
        CHECK.due("set " + which + ": pieces", x.about(0, 3), seen);
        CHECK.due("set " + which + ": the greatest", x.about(0, 4), Arrays.stream(sizes).max().orElse(0));
    }
}
