/** The edges that promises 20 to 22 name, each with a test of its own; refused calls: RefusedTest. */
public final class ImagesEdgesTest {
    private static final int OUTSIDE = -2;
    private static final int STATE = -3;
    private static final int LAST = 2400;
    private static final int ALL = 2401;

    private static final String EMPTY = " |  |  |  | ";
    private static final String FULL = "0/4 | 0/4 | 0/4 | 0/4 | ";
    private static final String SOME = "0/0 | 7/1 | 49/2 | 2400/0 | ";

    private static final Check CHECK = new Check("ImagesEdgesTest");

    public static void main(String[] args) {
        imageJustOutside();
        imageOfEmptySets();
        imageOfFullSets();
        imageLeavesTheSets();
        imageIsNotChangedByTheSets();
        imageKeptTwice();
        imageKeptTwiceByTheSame();
        imageLeavesTheOther();
        restoreJustOutside();
        restoreWhereNothingWasKept();
        restoreBringsAllFour();
        restoreLeavesTheImage();
        restoreLeavesTheOther();
        restoreThenKeepInTheOther();
        countEachHexOnce();
        countPatchesAdded();
        countKeptImages();
        countLeavesOutImages();
        countEmptyAndFull();
        countJustOutside();
        CHECK.end();
    }

    private static void fill(SevenKeys x, int on) {
        for (int slot = 0; slot <= 3; slot++) {
            x.put(slot, 0, 4, on);
        }
    }

    private static SevenKeys some() {
        SevenKeys x = new SevenKeys();
        makeSome(x);
        return x;
    }

    private static void makeSome(SevenKeys x) {
        fill(x, 0);
        x.put(0, 0, 0, 1);
        x.put(1, 7, 1, 1);
        x.put(2, 49, 2, 1);
        x.put(3, LAST, 0, 1);
    }

    private static void isNow(SevenKeys x, String sets, int kept) {
        CHECK.same("all slots", Sight.ofAll(x), sets + "kept " + kept);
    }

    // ---- promise 20

    private static void imageJustOutside() {
        SevenKeys x = some();
        CHECK.due("image(-1)", x.image(-1), OUTSIDE);
        CHECK.due("image(2)", x.image(2), OUTSIDE);
        isNow(x, SOME, 0);
        CHECK.due("restore(0), still nothing kept", x.restore(0), STATE);
        CHECK.due("restore(1), still nothing kept", x.restore(1), STATE);
    }

    private static void imageOfEmptySets() {
        for (int k = 0; k <= 1; k++) {
            SevenKeys x = new SevenKeys();
            CHECK.due("image(" + k + "), all empty", x.image(k), 1);
            fill(x, 1);
            CHECK.due("restore(" + k + ")", x.restore(k), 1);
            isNow(x, EMPTY, 1 << k);
        }
    }

    private static void imageOfFullSets() {
        for (int k = 0; k <= 1; k++) {
            SevenKeys x = new SevenKeys();
            fill(x, 1);
            CHECK.due("image(" + k + "), all full", x.image(k), 1);
            fill(x, 0);
            CHECK.due("restore(" + k + ")", x.restore(k), 1);
            isNow(x, FULL, 1 << k);
        }
    }

    private static void imageLeavesTheSets() {
        SevenKeys x = some();
        x.image(0);
        isNow(x, SOME, 1);
        x.image(1);
        isNow(x, SOME, 3);
    }

    /** Every call that changes a set comes between the keeping and the restoring. */
    private static void imageIsNotChangedByTheSets() {
        for (int k = 0; k <= 1; k++) {
            SevenKeys x = some();
            x.image(k);
            x.put(0, 0, 4, 1);
            x.disk(1, LAST, 5);
            x.join(2, 2, 2, 3);
            x.grow(3, 3, 1);
            isNot(x, SOME);
            CHECK.due("restore(" + k + ")", x.restore(k), 1);
            isNow(x, SOME, 1 << k);
        }
    }

    private static void isNot(SevenKeys x, String sets) {
        CHECK.holds("the sets are others now", !Sight.ofAll(x).startsWith(sets));
    }

    /** In place of what was kept there: nothing of the first keeping is left. */
    private static void imageKeptTwice() {
        for (int k = 0; k <= 1; k++) {
            SevenKeys x = new SevenKeys();
            fill(x, 1);
            x.image(k);
            makeSome(x);
            CHECK.due("image(" + k + "), again", x.image(k), 1);
            fill(x, 0);
            x.restore(k);
            isNow(x, SOME, 1 << k);
            fill(x, 0);
            CHECK.due("image(" + k + "), empty in place", x.image(k), 1);
            fill(x, 1);
            x.restore(k);
            isNow(x, EMPTY, 1 << k);
        }
    }

    private static void imageKeptTwiceByTheSame() {
        SevenKeys x = some();
        CHECK.due("image(0)", x.image(0), 1);
        CHECK.due("image(0), nothing between", x.image(0), 1);
        isNow(x, SOME, 1);
        fill(x, 0);
        x.restore(0);
        isNow(x, SOME, 1);
    }

    private static void imageLeavesTheOther() {
        for (int k = 0; k <= 1; k++) {
            SevenKeys x = some();
            x.image(k);
            fill(x, 1);
            x.image(1 - k);
            fill(x, 0);
            x.image(1 - k);
            x.restore(k);
            isNow(x, SOME, 3);
            x.restore(1 - k);
            isNow(x, EMPTY, 3);
        }
    }

    // ---- promise 21

    private static void restoreJustOutside() {
        SevenKeys x = some();
        CHECK.due("restore(-1), nothing kept", x.restore(-1), OUTSIDE);
        CHECK.due("restore(2), nothing kept", x.restore(2), OUTSIDE);
        x.image(0);
        x.image(1);
        fill(x, 1);
        CHECK.due("restore(-1), both kept", x.restore(-1), OUTSIDE);
        CHECK.due("restore(2), both kept", x.restore(2), OUTSIDE);
        isNow(x, FULL, 3);
    }

    /** Nothing was kept in IT: that the other one is kept does not help. */
    private static void restoreWhereNothingWasKept() {
        for (int k = 0; k <= 1; k++) {
            SevenKeys x = some();
            CHECK.due("restore(" + k + "), none kept", x.restore(k), STATE);
            isNow(x, SOME, 0);
            x.image(1 - k);
            CHECK.due("restore(" + k + "), the other kept", x.restore(k), STATE);
            isNow(x, SOME, 2 - k);
            x.restore(1 - k);
            CHECK.due("restore(" + k + "), the other restored", x.restore(k), STATE);
            isNow(x, SOME, 2 - k);
            x.image(k);
            CHECK.due("restore(" + k + "), kept", x.restore(k), 1);
        }
    }

    private static void restoreBringsAllFour() {
        SevenKeys x = some();
        x.image(1);
        fill(x, 0);
        CHECK.due("restore(1), all empty", x.restore(1), 1);
        isNow(x, SOME, 2);
        fill(x, 1);
        CHECK.due("restore(1), all full", x.restore(1), 1);
        isNow(x, SOME, 2);
        CHECK.due("restore(1), as they are", x.restore(1), 1);
        isNow(x, SOME, 2);
    }

    private static void restoreLeavesTheImage() {
        for (int k = 0; k <= 1; k++) {
            SevenKeys x = some();
            x.image(k);
            for (int time = 0; time < 3; time++) {
                x.put(0, 0, 4, time % 2);
                x.join(3, 0, 1, 0);
                x.grow(1, 1, -1);
                CHECK.due("restore(" + k + "), time " + time, x.restore(k), 1);
                isNow(x, SOME, 1 << k);
            }
        }
    }

    private static void restoreLeavesTheOther() {
        SevenKeys x = some();
        x.image(0);
        fill(x, 1);
        x.image(1);
        x.restore(0);
        isNow(x, SOME, 3);
        x.restore(1);
        isNow(x, FULL, 3);
        x.restore(0);
        isNow(x, SOME, 3);
    }

    private static void restoreThenKeepInTheOther() {
        SevenKeys x = some();
        x.image(0);
        fill(x, 1);
        x.image(1);
        x.restore(0);
        x.image(1);
        fill(x, 0);
        x.image(0);
        x.restore(1);
        isNow(x, SOME, 3);
        x.restore(0);
        isNow(x, EMPTY, 3);
    }

    // ---- promise 22

    private static void countEachHexOnce() {
        SevenKeys x = new SevenKeys();
        for (int slot = 0; slot <= 3; slot++) {
            x.put(slot, 0, 0, 1);
            x.put(slot, LAST, 0, 1);
            CHECK.due("count(0), by " + (slot + 1) + " slots", x.count(0), 2);
        }
        x.put(3, 1, 0, 1);
        CHECK.due("count(0), one more in the last slot", x.count(0), 3);
        x.put(0, 0, 0, 0);
        CHECK.due("count(0), still of three", x.count(0), 3);
    }

    private static void countPatchesAdded() {
        SevenKeys x = new SevenKeys();
        for (int slot = 0; slot <= 3; slot++) {
            x.put(slot, 0, 1, 1);
            CHECK.due("count(1), by " + (slot + 1) + " slots", x.count(1), slot + 1);
        }
        // Each set is packed by itself: together they would be the whole patch again.
        x.put(3, 0, 0, 0);
        CHECK.due("count(1), six hexes in one", x.count(1), 9);
        x.put(0, 7, 2, 1);
        CHECK.due("count(1), a greater one in its place", x.count(1), 9);
    }

    private static void countKeptImages() {
        SevenKeys x = new SevenKeys();
        CHECK.due("count(2), none", x.count(2), 0);
        x.image(1);
        CHECK.due("count(2), 1", x.count(2), 2);
        x.image(0);
        CHECK.due("count(2), both", x.count(2), 3);
        x.image(1);
        CHECK.due("count(2), kept twice", x.count(2), 3);
        x.restore(0);
        CHECK.due("count(2), restored", x.count(2), 3);
        SevenKeys y = new SevenKeys();
        y.image(0);
        CHECK.due("count(2), 0", y.count(2), 1);
        y.image(0);
        CHECK.due("count(2), 0 twice", y.count(2), 1);
        y.restore(0);
        CHECK.due("count(2), 0 restored", y.count(2), 1);
    }

    private static void countLeavesOutImages() {
        SevenKeys x = new SevenKeys();
        fill(x, 1);
        x.image(0);
        x.image(1);
        fill(x, 0);
        CHECK.due("count(0), kept alone", x.count(0), 0);
        CHECK.due("count(1), kept alone", x.count(1), 0);
    }

    private static void countEmptyAndFull() {
        SevenKeys x = new SevenKeys();
        CHECK.due("count(0), all empty", x.count(0), 0);
        CHECK.due("count(1), all empty", x.count(1), 0);
        fill(x, 1);
        CHECK.due("count(0), all full", x.count(0), ALL);
        CHECK.due("count(1), all full", x.count(1), 4);
        fill(x, 0);
        CHECK.due("count(0), all empty again", x.count(0), 0);
        CHECK.due("count(1), all empty again", x.count(1), 0);
    }

    private static void countJustOutside() {
        SevenKeys x = some();
        CHECK.due("count(-1)", x.count(-1), OUTSIDE);
        CHECK.due("count(3)", x.count(3), OUTSIDE);
        isNow(x, SOME, 0);
    }
}
