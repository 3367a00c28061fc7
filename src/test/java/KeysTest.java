/** Promises 2 to 9: point, key, next, far, side, patch, around, ring. */
public final class KeysTest {
    private static final int OUTSIDE = -2;
    private static final int NONE = -6;
    private static final int[] NO_KEYS = {-1, 2401, -6, Integer.MIN_VALUE, Integer.MAX_VALUE};
    private static final int[] NO_LEVELS = {-1, 5, Integer.MIN_VALUE, Integer.MAX_VALUE};

    private static final Check CHECK = new Check("KeysTest");
    private static final Fresh FRESH = new Fresh();
    private static final Model MODEL = new Model();

    private static SevenKeys x() {
        return FRESH.x();
    }

    public static void main(String[] args) {
        point();
        key();
        next();
        far();
        side();
        patch();
        around();
        ring();
        CHECK.end();
    }

    private static void pointIs(int key, int a, int b) {
        CHECK.due("point(" + key + ", 0)", x().point(key, 0), 1000 + a);
        CHECK.due("point(" + key + ", 1)", x().point(key, 1), 1000 + b);
        CHECK.due("key(" + a + ", " + b + ")", x().key(a, b), key);
    }

    private static void point() {
        pointIs(0, 0, 0);
        pointIs(1, 1, 0);
        pointIs(2, 0, 1);
        pointIs(3, -1, 1);
        pointIs(4, -1, 0);
        pointIs(5, 0, -1);
        pointIs(6, 1, -1);
        pointIs(7, 2, 1);
        pointIs(14, -1, 3);
        pointIs(49, 3, 5);
        pointIs(343, 1, 18);
        for (int key = 0; key < 2401; key++) {
            CHECK.due("point(" + key + ", 0)", x().point(key, 0), MODEL.point(key, 0));
            CHECK.due("point(" + key + ", 1)", x().point(key, 1), MODEL.point(key, 1));
        }
        for (int key : NO_KEYS) {
            CHECK.due("point(" + key + ", 0)", x().point(key, 0), OUTSIDE);
        }
        for (int what : new int[] {-1, 2, Integer.MIN_VALUE, Integer.MAX_VALUE}) {
            CHECK.due("point(5, " + what + ")", x().point(5, what), OUTSIDE);
        }
    }

    private static void key() {
        for (int a = -102; a <= 102; a++) {
            for (int b = -102; b <= 102; b++) {
                CHECK.due("key(" + a + ", " + b + ")", x().key(a, b), MODEL.key(a, b));
            }
        }
        CHECK.due("key(100, 100)", x().key(100, 100), NONE);
        CHECK.due("key(-100, -100)", x().key(-100, -100), NONE);
        CHECK.due("key(101, 0)", x().key(101, 0), OUTSIDE);
        CHECK.due("key(0, 101)", x().key(0, 101), OUTSIDE);
        CHECK.due("key(-101, 0)", x().key(-101, 0), OUTSIDE);
        CHECK.due("key(0, -101)", x().key(0, -101), OUTSIDE);
        CHECK.due("key(least, 0)", x().key(Integer.MIN_VALUE, 0), OUTSIDE);
        CHECK.due("key(0, greatest)", x().key(0, Integer.MAX_VALUE), OUTSIDE);
    }

    private static void next() {
        for (int side = 1; side <= 6; side++) {
            CHECK.due("next(0, " + side + ")", x().next(0, side), side);
        }
        CHECK.due("next(1, 4)", x().next(1, 4), 0);
        CHECK.due("next(1, 3)", x().next(1, 3), 2);
        CHECK.due("next(1, 1)", x().next(1, 1), 12);
        for (int key = 0; key < 2401; key++) {
            for (int side = 1; side <= 6; side++) {
                CHECK.due("next(" + key + ", " + side + ")", x().next(key, side), MODEL.next(key, side));
            }
        }
        for (int key : NO_KEYS) {
            CHECK.due("next(" + key + ", 1)", x().next(key, 1), OUTSIDE);
        }
        for (int side : new int[] {0, 7, -1, Integer.MIN_VALUE, Integer.MAX_VALUE}) {
            CHECK.due("next(0, " + side + ")", x().next(0, side), OUTSIDE);
        }
    }

    private static void far() {
        CHECK.due("far(9, 9)", x().far(9, 9), 0);
        CHECK.due("far(1, 4)", x().far(1, 4), 2);
        CHECK.due("far(1, 2)", x().far(1, 2), 1);
        CHECK.due("far(1, 3)", x().far(1, 3), 2);
        for (int one = 0; one < 2401; one += 13) {
            for (int other = 0; other < 2401; other += 3) {
                CHECK.due("far(" + one + ", " + other + ")", x().far(one, other), MODEL.far(one, other));
            }
        }
        for (int key : NO_KEYS) {
            CHECK.due("far(" + key + ", 0)", x().far(key, 0), OUTSIDE);
            CHECK.due("far(0, " + key + ")", x().far(0, key), OUTSIDE);
        }
    }

    private static void side() {
        int[] opposite = {0, 4, 5, 6, 1, 2, 3};
        for (int side = 0; side <= 6; side++) {
            CHECK.due("side(0, " + side + ")", x().side(0, side), side);
            CHECK.due("side(" + side + ", 0)", x().side(side, 0), opposite[side]);
        }
        CHECK.due("side(2400, 2400)", x().side(2400, 2400), 0);
        CHECK.due("side(0, 7)", x().side(0, 7), NONE);
        for (int one = 0; one < 2401; one += 97) {
            for (int other = 0; other < 2401; other++) {
                CHECK.due("side(" + one + ", " + other + ")", x().side(one, other), MODEL.side(one, other));
            }
        }
        for (int key : NO_KEYS) {
            CHECK.due("side(" + key + ", 0)", x().side(key, 0), OUTSIDE);
            CHECK.due("side(0, " + key + ")", x().side(0, key), OUTSIDE);
            CHECK.due("side(" + key + ", the same)", x().side(key, key), OUTSIDE);
        }
    }

    private static void patch() {
        int[] least = {2400, 2394, 2352, 2058, 0};
        for (int level = 0; level <= 4; level++) {
            CHECK.due("patch(2400, " + level + ")", x().patch(2400, level), least[level]);
            CHECK.due("patch(0, " + level + ")", x().patch(0, level), 0);
            for (int key = 0; key < 2401; key++) {
                CHECK.due("patch(" + key + ", " + level + ")", x().patch(key, level), MODEL.patch(key, level));
            }
        }
        for (int key : NO_KEYS) {
            CHECK.due("patch(" + key + ", 4)", x().patch(key, 4), OUTSIDE);
        }
        for (int level : NO_LEVELS) {
            CHECK.due("patch(0, " + level + ")", x().patch(0, level), OUTSIDE);
        }
    }

    private static void around() {
        CHECK.due("around(343, 3)", x().around(343, 3), 3);
        CHECK.due("around(1000, 4)", x().around(1000, 4), 0);
        for (int key = 0; key < 2401; key += 5) {
            for (int level = 0; level <= 3; level++) {
                CHECK.due("around(" + key + ", " + level + ")", x().around(key, level), MODEL.around(key, level));
            }
        }
        for (int key : NO_KEYS) {
            CHECK.due("around(" + key + ", 0)", x().around(key, 0), OUTSIDE);
        }
        for (int level : NO_LEVELS) {
            CHECK.due("around(0, " + level + ")", x().around(0, level), OUTSIDE);
        }
    }

    private static void ring() {
        for (int n = 1; n <= 20; n++) {
            CHECK.due("ring(0, " + n + ")", x().ring(0, n), 6 * n);
        }
        CHECK.due("ring(2400, 0)", x().ring(2400, 0), 1);
        for (int key = 0; key < 2401; key += 240) {
            int all = 0;
            for (int n = 0; n <= 70; n++) {
                int hexes = x().ring(key, n);
                CHECK.due("ring(" + key + ", " + n + ")", hexes, MODEL.ring(key, n));
                all += hexes;
            }
            CHECK.due("all rings around " + key, all, 2401);
        }
        for (int key : NO_KEYS) {
            CHECK.due("ring(" + key + ", 0)", x().ring(key, 0), OUTSIDE);
        }
        for (int n : new int[] {-1, 71, Integer.MIN_VALUE, Integer.MAX_VALUE}) {
            CHECK.due("ring(0, " + n + ")", x().ring(0, n), OUTSIDE);
        }
    }
}
