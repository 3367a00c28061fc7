import java.util.Random;

/** Promises 1 to 22 together: long runs of calls, each answer held against the model's. */
public final class RandomRunsTest {
    private static final int RUNS = 150;

    private static final Check CHECK = new Check("RandomRunsTest");

    private final Random random;
    private final SevenKeys x = new SevenKeys();
    private final Model model = new Model();
    private final int run;
    // Keys that the run comes back to, so that its sets touch one another.
    private final int middle;

    private RandomRunsTest(int run) {
        this.run = run;
        random = new Random(run);
        middle = random.nextInt(2401);
    }

    public static void main(String[] args) {
        for (int run = 0; run < RUNS && CHECK.wrong() == 0; run++) {
            RandomRunsTest test = new RandomRunsTest(run);
            for (int call = 0; call < Fresh.CALLS; call++) {
                test.call();
            }
        }
        CHECK.end();
    }

    private int number(int least, int greatest) {
        if (random.nextInt(60) == 0) {
            int[] wrong = {least - 1, greatest + 1, Integer.MIN_VALUE, Integer.MAX_VALUE, -6, -1};
            return wrong[random.nextInt(wrong.length)];
        }
        return least + random.nextInt(greatest - least + 1);
    }

    private int aKey() {
        switch (random.nextInt(4)) {
            case 0:
                return number(0, 2400);
            case 1:
                return Math.floorMod(middle + random.nextInt(15) - 7, 2401);
            case 2:
                return middle / 49 * 49 + random.nextInt(49);
            default:
                return random.nextInt(60);
        }
    }

    private int aSlot() {
        return number(0, 3);
    }

    private int aLevel() {
        return random.nextInt(5) == 0 ? number(0, 4) : random.nextInt(3);
    }

    private int aRadius() {
        return random.nextInt(4) == 0 ? number(0, 70) : random.nextInt(9);
    }

    private void due(String call, int got, int want) {
        CHECK.due("run " + run + ": " + call, got, want);
    }

    private void call() {
        switch (random.nextInt(5)) {
            case 0:
                callKeys(random.nextInt(8));
                break;
            case 1:
            case 2:
                callSets(random.nextInt(7));
                break;
            case 3:
                callTold(random.nextInt(6));
                break;
            default:
                callMore(random.nextInt(10));
                break;
        }
    }

    private void callKeys(int which) {
        int k = aKey();
        int m = aKey();
        int level = number(0, 4);
        switch (which) {
            case 0:
                int what = number(0, 1);
                due("point(" + k + ", " + what + ")", x.point(k, what), model.point(k, what));
                break;
            case 1:
                int a = number(-40, 40);
                int b = number(-100, 100);
                due("key(" + a + ", " + b + ")", x.key(a, b), model.key(a, b));
                break;
            case 2:
                int side = number(1, 6);
                due("next(" + k + ", " + side + ")", x.next(k, side), model.next(k, side));
                break;
            case 3:
                due("far(" + k + ", " + m + ")", x.far(k, m), model.far(k, m));
                break;
            case 4:
                due("side(" + k + ", " + m + ")", x.side(k, m), model.side(k, m));
                break;
            case 5:
                due("patch(" + k + ", " + level + ")", x.patch(k, level), model.patch(k, level));
                break;
            case 6:
                due("around(" + k + ", " + level + ")", x.around(k, level), model.around(k, level));
                break;
            default:
                int n = number(0, 70);
                due("ring(" + k + ", " + n + ")", x.ring(k, n), model.ring(k, n));
                break;
        }
    }

    private void callSets(int which) {
        int slot = aSlot();
        int k = aKey();
        int one = aSlot();
        int other = aSlot();
        switch (which) {
            case 0:
                int n = aRadius();
                due("disk(" + slot + ", " + k + ", " + n + ")", x.disk(slot, k, n), model.disk(slot, k, n));
                break;
            case 1:
                int way = number(0, 3);
                due("join(" + slot + ", " + one + ", " + other + ", " + way + ")",
                    x.join(slot, one, other, way), model.join(slot, one, other, way));
                break;
            case 2:
                int by = random.nextInt(30) == 0 ? number(-2, 2) : random.nextBoolean() ? 1 : -1;
                due("grow(" + slot + ", " + one + ", " + by + ")", x.grow(slot, one, by), model.grow(slot, one, by));
                break;
            default:
                int level = aLevel();
                int on = number(0, 1);
                due("put(" + slot + ", " + k + ", " + level + ", " + on + ")",
                    x.put(slot, k, level, on), model.put(slot, k, level, on));
                break;
        }
    }

    private void callTold(int which) {
        int slot = aSlot();
        int k = aKey();
        int m = aKey();
        switch (which) {
            case 0:
                due("has(" + slot + ", " + k + ")", x.has(slot, k), model.has(slot, k));
                break;
            case 1:
                int i = random.nextInt(3) == 0 ? number(0, 300) : number(0, 12);
                int what = number(0, 1);
                due("packed(" + slot + ", " + i + ", " + what + ")",
                    x.packed(slot, i, what), model.packed(slot, i, what));
                break;
            case 2:
                due("piece(" + slot + ", " + k + ")", x.piece(slot, k), model.piece(slot, k));
                break;
            case 3:
            case 4:
                due("way(" + slot + ", " + k + ", " + m + ")", x.way(slot, k, m), model.way(slot, k, m));
                break;
            default:
                int other = aSlot();
                due("alike(" + slot + ", " + other + ")", x.alike(slot, other), model.alike(slot, other));
                break;
        }
    }

    private void callMore(int which) {
        int k = number(0, 1);
        switch (which) {
            case 0:
                due("image(" + k + ")", x.image(k), model.image(k));
                break;
            case 1:
                due("restore(" + k + ")", x.restore(k), model.restore(k));
                break;
            case 2:
                int sum = number(0, 2);
                due("count(" + sum + ")", x.count(sum), model.count(sum));
                break;
            default:
                int slot = aSlot();
                int what = number(0, 6);
                due("about(" + slot + ", " + what + ")", x.about(slot, what), model.about(slot, what));
                break;
        }
    }
}
