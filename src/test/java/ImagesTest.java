/** Promises 20 to 22: image, restore, count. */
public final class ImagesTest {
    private static final int OUTSIDE = -2;
    private static final int STATE = -3;
    private static final int[] NO_IMAGES = {-1, 2, Integer.MIN_VALUE, Integer.MAX_VALUE};

    private static final Check CHECK = new Check("ImagesTest");

    public static void main(String[] args) {
        keepAndRestoreAll();
        twoImages();
        keptInPlace();
        refused();
        count();
        CHECK.end();
    }

    private static void sizesAre(SevenKeys x, int... due) {
        for (int slot = 0; slot < due.length; slot++) {
            CHECK.due("about(" + slot + ", 0)", x.about(slot, 0), due[slot]);
        }
    }

    private static void keepAndRestoreAll() {
        SevenKeys x = new SevenKeys();
        x.put(0, 0, 0, 1);
        x.put(1, 10, 1, 1);
        x.put(2, 100, 2, 1);
        x.put(3, 1000, 3, 1);
        CHECK.due("image(0)", x.image(0), 1);
        sizesAre(x, 1, 7, 49, 343);
        for (int slot = 0; slot < 4; slot++) {
            x.disk(slot, 2400, 5);
        }
        CHECK.due("restore(0)", x.restore(0), 1);
        sizesAre(x, 1, 7, 49, 343);
        CHECK.due("has(0, 0)", x.has(0, 0), 1);
        CHECK.due("packed(1, 0, 0)", x.packed(1, 0, 0), 7);
        CHECK.due("packed(2, 0, 0)", x.packed(2, 0, 0), 98);
        CHECK.due("packed(3, 0, 0)", x.packed(3, 0, 0), 686);
        // The image stays, whatever comes to the sets after it.
        x.put(0, 0, 4, 1);
        x.put(3, 0, 4, 0);
        CHECK.due("restore(0), once more", x.restore(0), 1);
        sizesAre(x, 1, 7, 49, 343);
    }

    private static void twoImages() {
        SevenKeys x = new SevenKeys();
        CHECK.due("image(1), of empty ones", x.image(1), 1);
        CHECK.due("count(2)", x.count(2), 2);
        CHECK.due("restore(0), not kept", x.restore(0), STATE);
        x.put(2, 30, 1, 1);
        CHECK.due("image(0)", x.image(0), 1);
        CHECK.due("count(2)", x.count(2), 3);
        x.put(3, 50, 2, 1);
        CHECK.due("restore(1)", x.restore(1), 1);
        sizesAre(x, 0, 0, 0, 0);
        CHECK.due("restore(0)", x.restore(0), 1);
        sizesAre(x, 0, 0, 7, 0);
        CHECK.due("count(2), after it", x.count(2), 3);
    }

    private static void keptInPlace() {
        SevenKeys x = new SevenKeys();
        x.put(0, 0, 2, 1);
        x.image(0);
        x.image(1);
        x.put(0, 0, 1, 0);
        x.put(1, 7, 0, 1);
        CHECK.due("image(0), again", x.image(0), 1);
        x.put(0, 0, 4, 1);
        CHECK.due("restore(0)", x.restore(0), 1);
        sizesAre(x, 42, 1, 0, 0);
        CHECK.due("restore(1)", x.restore(1), 1);
        sizesAre(x, 49, 0, 0, 0);
    }

    private static void refused() {
        SevenKeys x = new SevenKeys();
        x.put(0, 9, 1, 1);
        CHECK.due("restore(0), nothing kept", x.restore(0), STATE);
        CHECK.due("restore(1), nothing kept", x.restore(1), STATE);
        sizesAre(x, 7, 0, 0, 0);
        for (int k : NO_IMAGES) {
            CHECK.due("image(" + k + ")", x.image(k), OUTSIDE);
            CHECK.due("restore(" + k + ")", x.restore(k), OUTSIDE);
        }
        CHECK.due("count(2)", x.count(2), 0);
        x.image(0);
        x.put(0, 0, 4, 0);
        for (int k : NO_IMAGES) {
            CHECK.due("image(" + k + ")", x.image(k), OUTSIDE);
            CHECK.due("restore(" + k + ")", x.restore(k), OUTSIDE);
        }
        CHECK.due("restore(1), nothing kept", x.restore(1), STATE);
        sizesAre(x, 0, 0, 0, 0);
        CHECK.due("count(2)", x.count(2), 1);
        x.restore(0);
        sizesAre(x, 7, 0, 0, 0);
    }

    private static void count() {
        SevenKeys x = new SevenKeys();
        x.put(0, 0, 1, 1);
        x.put(1, 6, 0, 1);
        x.put(1, 7, 0, 1);
        x.put(3, 0, 2, 1);
        x.put(3, 48, 0, 0);
        CHECK.due("count(0)", x.count(0), 48);
        CHECK.due("count(1)", x.count(1), 1 + 2 + 12);
        CHECK.due("count(2)", x.count(2), 0);
        x.put(2, 2400, 0, 1);
        CHECK.due("count(0)", x.count(0), 49);
        CHECK.due("count(1)", x.count(1), 16);
        x.image(0);
        x.put(2, 0, 4, 1);
        CHECK.due("count(0), all", x.count(0), 2401);
        for (int slot = 0; slot < 4; slot++) {
            x.put(slot, 0, 4, 0);
        }
        // What an image keeps is of no set.
        CHECK.due("count(0), none", x.count(0), 0);
        CHECK.due("count(1), none", x.count(1), 0);
        CHECK.due("count(2)", x.count(2), 1);
        for (int what : new int[] {-1, 3, Integer.MIN_VALUE, Integer.MAX_VALUE}) {
            CHECK.due("count(" + what + ")", x.count(what), OUTSIDE);
        }
    }
}
