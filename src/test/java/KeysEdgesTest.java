/** The edges that promises 1 to 9 name, each with a test of its own; refused calls: RefusedTest. */
public final class KeysEdgesTest {
    private static final int OUTSIDE = -2;
    private static final int STATE = -3;
    private static final int NONE = -6;
    private static final int LAST = 2400;

    private static final int[] OPPOSITE = {0, 4, 5, 6, 1, 2, 3};

    // The two hexes on each of the sheet's six outermost rows, and where these rows lie.
    private static final int[] LEAST_A = {1200, 1201}, GREATEST_A = {2395, 2400};
    private static final int[] LEAST_B = {2000, 2001}, GREATEST_B = {800, 801};

    private static final Check CHECK = new Check("KeysEdgesTest");
    private static final Fresh FRESH = new Fresh();

    private static SevenKeys x() {
        return FRESH.x();
    }

    public static void main(String[] args) {
        newSetsAreEmpty();
        newObjectKeepsNoImage();
        newObjectsShareNothing();
        pointOfFirstAndLastKey();
        pointWhatJustOutside();
        pointsAroundAThousand();
        noTwoKeysHaveOnePoint();
        keyAtTheLimits();
        keyJustOutsideTheLimits();
        keyJustOutsideTheSheet();
        keyDoesNotWrapAround();
        nextBySidesOneAndSix();
        nextBySidesZeroAndSeven();
        nextAtTheEdge();
        nextAndBack();
        farOfOneHex();
        farthest();
        farGoesOverPointsOutside();
        sideOfOneHex();
        sideFromTheFirstToTheOther();
        sideAcrossPatches();
        sideOfTwoNotNext();
        sideOfAllOthers();
        patchOfLevelZero();
        patchOfLevelFour();
        patchFirstAndLastHex();
        aroundLevelZero();
        aroundLevelFour();
        aroundAtTheEdge();
        aroundIsOfThePatch();
        ringOfNothing();
        ringOfSeventy();
        ringAtTheEdge();
        ringFarthest();
        CHECK.end();
    }

    // ---- promise 1

    private static void newSetsAreEmpty() {
        for (int slot = 0; slot < 4; slot++) {
            SevenKeys x = new SevenKeys();
            CHECK.due("new: has(" + slot + ", 0)", x.has(slot, 0), 0);
            CHECK.due("new: has(" + slot + ", 2400)", x.has(slot, LAST), 0);
            CHECK.due("new: about(" + slot + ", 0)", x.about(slot, 0), 0);
            CHECK.due("new: about(" + slot + ", 5)", x.about(slot, 5), NONE);
            CHECK.due("new: about(" + slot + ", 6)", x.about(slot, 6), NONE);
            CHECK.due("new: packed(" + slot + ", 0, 0)", x.packed(slot, 0, 0), NONE);
            CHECK.due("new: alike(" + slot + ", 0)", x.alike(slot, 0), 0);
            CHECK.due("new: grow(" + slot + ", .., 1)", x.grow(slot, slot, 1), 0);
        }
        CHECK.due("new: count(0)", new SevenKeys().count(0), 0);
        CHECK.due("new: count(1)", new SevenKeys().count(1), 0);
    }

    private static void newObjectKeepsNoImage() {
        CHECK.due("new: count(2)", new SevenKeys().count(2), 0);
        CHECK.due("new: restore(0)", new SevenKeys().restore(0), STATE);
        CHECK.due("new: restore(1)", new SevenKeys().restore(1), STATE);
    }

    private static void newObjectsShareNothing() {
        SevenKeys used = new SevenKeys();
        SevenKeys other = new SevenKeys();
        used.put(0, 0, 4, 1);
        used.image(1);
        CHECK.same("made before the calls", Sight.ofAll(other), " |  |  |  | kept 0");
        CHECK.same("made after the calls", Sight.ofAll(new SevenKeys()), " |  |  |  | kept 0");
        CHECK.same("the used one", Sight.ofAll(used), "0/4 |  |  |  | kept 2");
    }

    // ---- promise 2

    private static void pointOfFirstAndLastKey() {
        CHECK.due("point(0, 0)", x().point(0, 0), 1000);
        CHECK.due("point(0, 1)", x().point(0, 1), 1000);
        CHECK.due("point(2400, 0)", x().point(LAST, 0), 1031);
        CHECK.due("point(2400, 1)", x().point(LAST, 1), 993);
        CHECK.due("point(-1, 0)", x().point(-1, 0), OUTSIDE);
        CHECK.due("point(-1, 1)", x().point(-1, 1), OUTSIDE);
        CHECK.due("point(2401, 0)", x().point(LAST + 1, 0), OUTSIDE);
        CHECK.due("point(2401, 1)", x().point(LAST + 1, 1), OUTSIDE);
    }

    private static void pointWhatJustOutside() {
        CHECK.due("point(0, -1)", x().point(0, -1), OUTSIDE);
        CHECK.due("point(0, 2)", x().point(0, 2), OUTSIDE);
        CHECK.due("point(2400, -1)", x().point(LAST, -1), OUTSIDE);
        CHECK.due("point(2400, 2)", x().point(LAST, 2), OUTSIDE);
    }

    /** 1000 is added to numbers below 0, too: to the least and to the greatest of the sheet. */
    private static void pointsAroundAThousand() {
        int[] a = {0, 1, 0, -1, -1, 0, 1};
        int[] b = {0, 0, 1, 1, 0, -1, -1};
        for (int figure = 0; figure <= 6; figure++) {
            CHECK.due("point(" + figure + ", 0)", x().point(figure, 0), 1000 + a[figure]);
            CHECK.due("point(" + figure + ", 1)", x().point(figure, 1), 1000 + b[figure]);
        }
        for (int i = 0; i < 2; i++) {
            CHECK.due("point, the least a", x().point(LEAST_A[i], 0), 969);
            CHECK.due("point, the greatest a", x().point(GREATEST_A[i], 0), 1031);
            CHECK.due("point, the least b", x().point(LEAST_B[i], 1), 969);
            CHECK.due("point, the greatest b", x().point(GREATEST_B[i], 1), 1031);
        }
    }

    private static void noTwoKeysHaveOnePoint() {
        for (int key = 0; key <= LAST; key++) {
            int a = x().point(key, 0) - 1000;
            int b = x().point(key, 1) - 1000;
            CHECK.due("key(" + a + ", " + b + ")", x().key(a, b), key);
        }
    }

    // ---- promise 3

    private static void keyAtTheLimits() {
        for (int limit : new int[] {-100, 100}) {
            CHECK.due("key(" + limit + ", 0)", x().key(limit, 0), NONE);
            CHECK.due("key(0, " + limit + ")", x().key(0, limit), NONE);
            CHECK.due("key(" + limit + ", -100)", x().key(limit, -100), NONE);
            CHECK.due("key(" + limit + ", 100)", x().key(limit, 100), NONE);
        }
    }

    private static void keyJustOutsideTheLimits() {
        for (int wrong : new int[] {-101, 101}) {
            CHECK.due("key(" + wrong + ", 0)", x().key(wrong, 0), OUTSIDE);
            CHECK.due("key(0, " + wrong + ")", x().key(0, wrong), OUTSIDE);
            CHECK.due("key(" + wrong + ", 100)", x().key(wrong, 100), OUTSIDE);
            CHECK.due("key(-100, " + wrong + ")", x().key(-100, wrong), OUTSIDE);
        }
    }

    /** Beyond the six outermost rows: a, b, or both added, just beyond 31. */
    private static void keyJustOutsideTheSheet() {
        for (int i = -32; i <= 32; i++) {
            CHECK.due("key(32, " + i + ")", x().key(32, i), NONE);
            CHECK.due("key(-32, " + i + ")", x().key(-32, i), NONE);
            CHECK.due("key(" + i + ", 32)", x().key(i, 32), NONE);
            CHECK.due("key(" + i + ", -32)", x().key(i, -32), NONE);
            CHECK.due("key(" + i + ", 32 less it)", x().key(i, 32 - i), NONE);
            CHECK.due("key(" + i + ", -32 less it)", x().key(i, -32 - i), NONE);
        }
        CHECK.due("key(31, -7)", x().key(31, -7), LAST);
        CHECK.due("key(32, -7)", x().key(32, -7), NONE);
        CHECK.due("key(31, -8)", x().key(31, -8), NONE);
        CHECK.due("key(32, -8)", x().key(32, -8), NONE);
    }

    /** Each point is told once: all 201 times 201 have no more than the sheet's 2401. */
    private static void keyDoesNotWrapAround() {
        int hexes = 0;
        for (int a = -100; a <= 100; a++) {
            for (int b = -100; b <= 100; b++) {
                hexes += x().key(a, b) == NONE ? 0 : 1;
            }
        }
        CHECK.due("points of the sheet", hexes, 2401);
    }

    // ---- promise 4

    private static void nextBySidesOneAndSix() {
        CHECK.due("next(0, 1)", x().next(0, 1), 1);
        CHECK.due("next(0, 6)", x().next(0, 6), 6);
        CHECK.due("next(1, 1)", x().next(1, 1), 12);
        CHECK.due("next(6, 6)", x().next(6, 6), 46);
    }

    private static void nextBySidesZeroAndSeven() {
        for (int key : new int[] {0, LAST}) {
            CHECK.due("next(" + key + ", 0)", x().next(key, 0), OUTSIDE);
            CHECK.due("next(" + key + ", 7)", x().next(key, 7), OUTSIDE);
        }
        CHECK.due("next(-1, 1)", x().next(-1, 1), OUTSIDE);
        CHECK.due("next(2401, 6)", x().next(LAST + 1, 6), OUTSIDE);
    }

    /** Each side leads off the sheet somewhere: 486 times in all, 81 times a side. */
    private static void nextAtTheEdge() {
        int[] firstOff = {0, 400, 400, 401, 409, 466, 400};
        for (int side = 1; side <= 6; side++) {
            int off = 0;
            int first = NONE;
            for (int key = LAST; key >= 0; key--) {
                if (x().next(key, side) == NONE) {
                    off++;
                    first = key;
                }
            }
            CHECK.due("hexes with none by side " + side, off, 81);
            CHECK.due("the first with none by side " + side, first, firstOff[side]);
        }
        int[] ofLast = {0, NONE, 2395, 2394, 2399, NONE, NONE};
        for (int side = 1; side <= 6; side++) {
            CHECK.due("next(2400, " + side + ")", x().next(LAST, side), ofLast[side]);
        }
    }

    private static void nextAndBack() {
        for (int key = 0; key <= LAST; key++) {
            for (int side = 1; side <= 6; side++) {
                int there = x().next(key, side);
                if (there != NONE) {
                    CHECK.due("back to " + key, x().next(there, OPPOSITE[side]), key);
                }
            }
        }
    }

    // ---- promise 5

    private static void farOfOneHex() {
        CHECK.due("far(0, 0)", x().far(0, 0), 0);
        CHECK.due("far(2400, 2400)", x().far(LAST, LAST), 0);
    }

    private static void farthest() {
        CHECK.due("far(0, 2400)", x().far(0, LAST), 31);
        CHECK.due("far(2400, 0)", x().far(LAST, 0), 31);
        CHECK.due("far(2400, 1201), by a", x().far(LAST, 1201), 62);
        CHECK.due("far(801, 2000), by b", x().far(801, 2000), 62);
        CHECK.due("far(1600, 400), by both", x().far(1600, 400), 62);
    }

    /** FAR is of POINTS: where the sheet's edge bends in, a way outside of it is shorter. */
    private static void farGoesOverPointsOutside() {
        CHECK.due("far(409, 449)", x().far(409, 449), 3);
        CHECK.due("far(435, 2123)", x().far(435, 2123), 13);
    }

    // ---- promise 6

    private static void sideOfOneHex() {
        CHECK.due("side(0, 0)", x().side(0, 0), 0);
        CHECK.due("side(2400, 2400)", x().side(LAST, LAST), 0);
        CHECK.due("side(400, 400), at the edge", x().side(400, 400), 0);
        CHECK.due("side(-1, -1)", x().side(-1, -1), OUTSIDE);
        CHECK.due("side(2401, 2401)", x().side(LAST + 1, LAST + 1), OUTSIDE);
        CHECK.due("side(2400, -6), which is what next tells there", x().side(LAST, NONE), OUTSIDE);
    }

    private static void sideFromTheFirstToTheOther() {
        for (int side = 1; side <= 6; side++) {
            CHECK.due("side(0, " + side + ")", x().side(0, side), side);
            CHECK.due("side(" + side + ", 0)", x().side(side, 0), OPPOSITE[side]);
        }
    }

    private static void sideAcrossPatches() {
        CHECK.due("side(1, 12)", x().side(1, 12), 1);
        CHECK.due("side(12, 1)", x().side(12, 1), 4);
        CHECK.due("side(8, 89)", x().side(8, 89), 1);
        CHECK.due("side(6, 46)", x().side(6, 46), 6);
    }

    private static void sideOfTwoNotNext() {
        CHECK.due("side(1, 4), two apart", x().side(1, 4), NONE);
        CHECK.due("side(0, 2400)", x().side(0, LAST), NONE);
        CHECK.due("side(6, 7), keys one apart", x().side(6, 7), NONE);
        CHECK.due("side(1200, 2400)", x().side(1200, LAST), NONE);
    }

    /** NONE of all but itself and those next to it: six of 0, and three of 2400. */
    private static void sideOfAllOthers() {
        int[] ofLast = {LAST, NONE, 2395, 2394, 2399, NONE, NONE};
        for (int other = 0; other <= LAST; other++) {
            int due = NONE;
            for (int side = 0; side <= 6; side++) {
                due = ofLast[side] == other ? side : due;
            }
            CHECK.due("side(0, " + other + ")", x().side(0, other), other <= 6 ? other : NONE);
            CHECK.due("side(2400, " + other + ")", x().side(LAST, other), due);
        }
    }

    // ---- promise 7

    private static void patchOfLevelZero() {
        for (int key = 0; key <= LAST; key++) {
            CHECK.due("patch(" + key + ", 0)", x().patch(key, 0), key);
        }
    }

    private static void patchOfLevelFour() {
        for (int key = 0; key <= LAST; key++) {
            CHECK.due("patch(" + key + ", 4)", x().patch(key, 4), 0);
        }
        CHECK.due("patch(0, -1)", x().patch(0, -1), OUTSIDE);
        CHECK.due("patch(0, 5)", x().patch(0, 5), OUTSIDE);
        CHECK.due("patch(-1, 4)", x().patch(-1, 4), OUTSIDE);
        CHECK.due("patch(2401, 4)", x().patch(LAST + 1, 4), OUTSIDE);
    }

    private static void patchFirstAndLastHex() {
        int[] sizes = {1, 7, 49, 343};
        for (int level = 1; level <= 3; level++) {
            int size = sizes[level];
            CHECK.due("patch, last of the first one", x().patch(size - 1, level), 0);
            CHECK.due("patch, first of the second one", x().patch(size, level), size);
            CHECK.due("patch, last of the second one", x().patch(2 * size - 1, level), size);
            CHECK.due("patch(2400, " + level + ")", x().patch(LAST, level), 2401 - size);
            CHECK.due("patch, last but one", x().patch(LAST - size, level), 2401 - 2 * size);
        }
    }

    // ---- promise 8

    private static void aroundLevelZero() {
        CHECK.due("around(0, 0)", x().around(0, 0), 6);
        CHECK.due("around(2400, 0), at the edge", x().around(LAST, 0), 3);
        CHECK.due("around(405, 0), at the edge", x().around(405, 0), 4);
        CHECK.due("around(402, 0), at the edge", x().around(402, 0), 5);
        CHECK.due("around(0, -1)", x().around(0, -1), OUTSIDE);
    }

    private static void aroundLevelFour() {
        CHECK.due("around(0, 4)", x().around(0, 4), 0);
        CHECK.due("around(2400, 4)", x().around(LAST, 4), 0);
        CHECK.due("around(0, 5)", x().around(0, 5), OUTSIDE);
    }

    private static void aroundAtTheEdge() {
        int[] least = {0, 399, 392, 343};
        int[] four = {0, 434, 637};
        int[] five = {0, 413, 490};
        for (int level = 1; level <= 3; level++) {
            CHECK.due("around(0, " + level + ")", x().around(0, level), 6);
            CHECK.due("around(" + least[level] + ", " + level + ")", x().around(least[level], level), 3);
            CHECK.due("around(2400, " + level + ")", x().around(LAST, level), 3);
        }
        for (int level = 1; level <= 2; level++) {
            CHECK.due("around(" + four[level] + ", " + level + ")", x().around(four[level], level), 4);
            CHECK.due("around(" + five[level] + ", " + level + ")", x().around(five[level], level), 5);
        }
    }

    /** It is told of the patch, so of each of its hexes alike; calls between change nothing. */
    private static void aroundIsOfThePatch() {
        CHECK.due("around(24, 2), its inmost", x().around(24, 2), 6);
        CHECK.due("around(48, 2), its last", x().around(48, 2), 6);
        for (int key = 343; key < 686; key += 57) {
            CHECK.due("around(" + key + ", 3)", x().around(key, 3), 3);
        }
    }

    // ---- promise 9

    private static void ringOfNothing() {
        CHECK.due("ring(0, 0)", x().ring(0, 0), 1);
        CHECK.due("ring(2400, 0)", x().ring(LAST, 0), 1);
        CHECK.due("ring(0, -1)", x().ring(0, -1), OUTSIDE);
        CHECK.due("ring(-1, 0)", x().ring(-1, 0), OUTSIDE);
    }

    private static void ringOfSeventy() {
        CHECK.due("ring(0, 70)", x().ring(0, 70), 0);
        CHECK.due("ring(2400, 70)", x().ring(LAST, 70), 0);
        CHECK.due("ring(0, 71)", x().ring(0, 71), OUTSIDE);
        CHECK.due("ring(2401, 70)", x().ring(LAST + 1, 70), OUTSIDE);
    }

    /** Points that are not of the sheet do not count. */
    private static void ringAtTheEdge() {
        CHECK.due("ring(2400, 1)", x().ring(LAST, 1), 3);
        CHECK.due("ring(2400, 2)", x().ring(LAST, 2), 4);
        CHECK.due("ring(0, 24), the last whole one", x().ring(0, 24), 144);
        CHECK.due("ring(0, 25)", x().ring(0, 25), 138);
    }

    private static void ringFarthest() {
        CHECK.due("ring(0, 31)", x().ring(0, 31), 12);
        CHECK.due("ring(0, 32)", x().ring(0, 32), 0);
        CHECK.due("ring(2400, 62)", x().ring(LAST, 62), 2);
        CHECK.due("ring(2400, 63)", x().ring(LAST, 63), 0);
    }
}
