/** The edges that promises 10 to 13 name, each with a test of its own; refused calls: RefusedTest. */
public final class SetsEdgesTest {
    private static final int UNKNOWN = -1;
    private static final int OUTSIDE = -2;
    private static final int LAST = 2400;
    private static final int ALL = 2401;

    // What join makes, by way: any, both, the first one without the second one, just one.
    private static final String[] WITH_SECOND_EMPTY = {"0/1", "", "0/1", "0/1"};
    private static final String[] WITH_FIRST_EMPTY = {"0/1", "", "", "0/1"};
    private static final String[] WITH_ITSELF = {"0/1", "0/1", "", ""};

    // The first one has 7 and 8, the second one 8 and 9.
    private static final String[] OVERLAP = {"7/0 8/0 9/0", "8/0", "7/0", "7/0 9/0"};

    private static final Check CHECK = new Check("SetsEdgesTest");

    public static void main(String[] args) {
        putOneHex();
        putTheSheet();
        putAnyHexOfThePatch();
        putTwice();
        putOutOfAnEmptySet();
        putOutOfAFullSet();
        putIntoFirstAndLastSlot();
        putRefusedInItsOrder();
        diskOfNothing();
        diskOfSeventy();
        diskReachesTheFarthest();
        diskAtTheEdge();
        diskGoesOverPointsOutside();
        diskTakesThePlace();
        diskRefusedInItsOrder();
        joinWithAnEmptySet();
        joinOfEmptySets();
        joinWithAFullSet();
        joinOneSlotTwice();
        joinIntoTheFirst();
        joinIntoTheSecond();
        joinAllThreeTheSame();
        joinTakesThePlace();
        joinAtFirstAndLastKey();
        joinRefusedInItsOrder();
        growEmpty();
        growFull();
        growOneHex();
        growAtTheEdge();
        shrinkAtTheEdge();
        shrinkAroundAHole();
        growIntoItsOwn();
        growTakesThePlace();
        growRefusedInItsOrder();
        CHECK.end();
    }

    private static void slotIs(SevenKeys x, int slot, String patches) {
        CHECK.same("slot " + slot, Sight.ofSlot(x, slot), patches);
    }

    // ---- promise 10

    private static void putOneHex() {
        for (int key : new int[] {0, 6, 7, LAST}) {
            SevenKeys x = new SevenKeys();
            CHECK.due("put(0, " + key + ", 0, 1)", x.put(0, key, 0, 1), 1);
            slotIs(x, 0, key + "/0");
            CHECK.due("put(0, " + key + ", 0, 0)", x.put(0, key, 0, 0), 0);
            slotIs(x, 0, "");
        }
    }

    private static void putTheSheet() {
        for (int key : new int[] {0, 1200, LAST}) {
            SevenKeys x = new SevenKeys();
            CHECK.due("put(0, " + key + ", 4, 1)", x.put(0, key, 4, 1), ALL);
            slotIs(x, 0, "0/4");
            CHECK.due("put(0, " + key + ", 4, 0)", x.put(0, key, 4, 0), 0);
            slotIs(x, 0, "");
        }
    }

    private static void putAnyHexOfThePatch() {
        int[] sizes = {1, 7, 49, 343};
        for (int level = 1; level <= 3; level++) {
            int size = sizes[level];
            for (int key : new int[] {size, size + 1, 2 * size - 1}) {
                SevenKeys x = new SevenKeys();
                CHECK.due("put(0, " + key + ", " + level + ", 1)", x.put(0, key, level, 1), size);
                slotIs(x, 0, size + "/" + level);
                CHECK.due("has, just before it", x.has(0, size - 1), 0);
                CHECK.due("has, just behind it", x.has(0, 2 * size), 0);
                CHECK.due("put, one of it goes", x.put(0, key, 0, 0), size - 1);
                CHECK.due("put, all of it goes", x.put(0, size, level, 0), 0);
            }
        }
    }

    private static void putTwice() {
        SevenKeys x = new SevenKeys();
        x.put(0, 10, 1, 1);
        CHECK.due("put(0, 10, 1, 1), again", x.put(0, 10, 1, 1), 7);
        CHECK.due("put(0, 12, 0, 1), there already", x.put(0, 12, 0, 1), 7);
        CHECK.due("put(0, 0, 2, 1), some there already", x.put(0, 0, 2, 1), 49);
        CHECK.due("put(0, 10, 1, 0)", x.put(0, 10, 1, 0), 42);
        CHECK.due("put(0, 10, 1, 0), again", x.put(0, 10, 1, 0), 42);
        CHECK.due("put(0, 0, 2, 0), some gone already", x.put(0, 0, 2, 0), 0);
    }

    private static void putOutOfAnEmptySet() {
        for (int level = 0; level <= 4; level++) {
            SevenKeys x = new SevenKeys();
            CHECK.due("put(0, 0, " + level + ", 0), empty", x.put(0, 0, level, 0), 0);
            CHECK.due("put(0, 2400, " + level + ", 0), empty", x.put(0, LAST, level, 0), 0);
            slotIs(x, 0, "");
        }
    }

    private static void putOutOfAFullSet() {
        int[] left = {2400, 2394, 2352, 2058, 0};
        for (int level = 0; level <= 4; level++) {
            SevenKeys x = new SevenKeys();
            x.put(0, 0, 4, 1);
            CHECK.due("put(0, 0, 0, 1), full", x.put(0, 0, 0, 1), ALL);
            CHECK.due("put(0, 2400, " + level + ", 0), full", x.put(0, LAST, level, 0), left[level]);
            CHECK.due("put(0, 2400, " + level + ", 1), back", x.put(0, LAST, level, 1), ALL);
        }
    }

    private static void putIntoFirstAndLastSlot() {
        SevenKeys x = new SevenKeys();
        CHECK.due("put(0, 5, 0, 1)", x.put(0, 5, 0, 1), 1);
        CHECK.due("put(3, 9, 1, 1)", x.put(3, 9, 1, 1), 7);
        CHECK.same("all slots", Sight.ofAll(x), "5/0 |  |  | 7/1 | kept 0");
        CHECK.due("put(3, 7, 0, 0)", x.put(3, 7, 0, 0), 6);
        CHECK.due("put(0, 7, 0, 0), of the other slot", x.put(0, 7, 0, 0), 1);
    }

    private static void putRefusedInItsOrder() {
        SevenKeys x = new SevenKeys();
        CHECK.due("put(-1, ..)", x.put(-1, 0, 0, 1), UNKNOWN);
        CHECK.due("put(4, ..)", x.put(4, 0, 0, 1), UNKNOWN);
        CHECK.due("put(4, -1, 0, 1)", x.put(4, -1, 0, 1), UNKNOWN);
        CHECK.due("put(4, 0, 5, 1)", x.put(4, 0, 5, 1), UNKNOWN);
        CHECK.due("put(4, 0, 0, 2)", x.put(4, 0, 0, 2), UNKNOWN);
        CHECK.due("put(0, -1, 0, 1)", x.put(0, -1, 0, 1), OUTSIDE);
        CHECK.due("put(0, 2401, 0, 1)", x.put(0, ALL, 0, 1), OUTSIDE);
        CHECK.due("put(0, 2401, 4, 1)", x.put(0, ALL, 4, 1), OUTSIDE);
        CHECK.due("put(0, 0, -1, 1)", x.put(0, 0, -1, 1), OUTSIDE);
        CHECK.due("put(0, 0, 5, 1)", x.put(0, 0, 5, 1), OUTSIDE);
        CHECK.due("put(0, 0, 0, -1)", x.put(0, 0, 0, -1), OUTSIDE);
        CHECK.due("put(0, 0, 0, 2)", x.put(0, 0, 0, 2), OUTSIDE);
        CHECK.due("count(0), nothing came", x.count(0), 0);
    }

    // ---- promise 11

    private static void diskOfNothing() {
        SevenKeys x = new SevenKeys();
        for (int key : new int[] {0, 1200, LAST}) {
            CHECK.due("disk(0, " + key + ", 0)", x.disk(0, key, 0), 1);
            slotIs(x, 0, key + "/0");
        }
    }

    private static void diskOfSeventy() {
        SevenKeys x = new SevenKeys();
        for (int key : new int[] {0, 1200, LAST}) {
            CHECK.due("disk(0, " + key + ", 70)", x.disk(0, key, 70), ALL);
            slotIs(x, 0, "0/4");
            x.put(0, 0, 4, 0);
        }
    }

    private static void diskReachesTheFarthest() {
        SevenKeys x = new SevenKeys();
        CHECK.due("disk(0, 0, 30)", x.disk(0, 0, 30), 2389);
        CHECK.due("disk(0, 0, 31)", x.disk(0, 0, 31), ALL);
        CHECK.due("disk(0, 2400, 61)", x.disk(0, LAST, 61), 2399);
        CHECK.due("has(0, 1200)", x.has(0, 1200), 0);
        CHECK.due("has(0, 1201)", x.has(0, 1201), 0);
        CHECK.due("disk(0, 2400, 62)", x.disk(0, LAST, 62), ALL);
    }

    private static void diskAtTheEdge() {
        SevenKeys x = new SevenKeys();
        CHECK.due("disk(0, 2400, 1)", x.disk(0, LAST, 1), 4);
        slotIs(x, 0, "2394/0 2395/0 2399/0 2400/0");
        CHECK.due("disk(0, 2400, 2)", x.disk(0, LAST, 2), 8);
        slotIs(x, 0, "2388/0 2394/1");
    }

    /** FAR is of POINTS: 449 is 3 from 409, but no 3 steps within the sheet lead there. */
    private static void diskGoesOverPointsOutside() {
        SevenKeys x = new SevenKeys();
        x.disk(0, 409, 3);
        CHECK.due("has(0, 449), by the disk", x.has(0, 449), 1);
        x.disk(1, 409, 0);
        for (int step = 0; step < 3; step++) {
            x.grow(1, 1, 1);
        }
        CHECK.due("has(1, 449), by growing", x.has(1, 449), 0);
    }

    private static void diskTakesThePlace() {
        SevenKeys x = new SevenKeys();
        x.put(2, 0, 4, 1);
        x.put(1, 0, 0, 1);
        CHECK.due("disk(2, 0, 1), full before", x.disk(2, 0, 1), 7);
        CHECK.due("disk(2, 14, 1)", x.disk(2, 14, 1), 7);
        CHECK.same("all slots", Sight.ofAll(x), " | 0/0 | 14/1 |  | kept 0");
    }

    private static void diskRefusedInItsOrder() {
        SevenKeys x = new SevenKeys();
        x.put(0, 8, 1, 1);
        CHECK.due("disk(-1, 0, 0)", x.disk(-1, 0, 0), UNKNOWN);
        CHECK.due("disk(4, 0, 0)", x.disk(4, 0, 0), UNKNOWN);
        CHECK.due("disk(4, -1, 0)", x.disk(4, -1, 0), UNKNOWN);
        CHECK.due("disk(4, 0, 71)", x.disk(4, 0, 71), UNKNOWN);
        CHECK.due("disk(0, -1, 0)", x.disk(0, -1, 0), OUTSIDE);
        CHECK.due("disk(0, 2401, 0)", x.disk(0, ALL, 0), OUTSIDE);
        CHECK.due("disk(0, 0, -1)", x.disk(0, 0, -1), OUTSIDE);
        CHECK.due("disk(0, 0, 71)", x.disk(0, 0, 71), OUTSIDE);
        slotIs(x, 0, "7/1");
    }

    // ---- promise 12

    private static void joinWithAnEmptySet() {
        for (int way = 0; way <= 3; way++) {
            SevenKeys x = new SevenKeys();
            x.put(0, 0, 1, 1);
            CHECK.due("join(2, 0, 1, " + way + ")", x.join(2, 0, 1, way), WITH_SECOND_EMPTY[way].isEmpty() ? 0 : 7);
            slotIs(x, 2, WITH_SECOND_EMPTY[way]);
            CHECK.due("join(3, 1, 0, " + way + ")", x.join(3, 1, 0, way), WITH_FIRST_EMPTY[way].isEmpty() ? 0 : 7);
            slotIs(x, 3, WITH_FIRST_EMPTY[way]);
        }
    }

    private static void joinOfEmptySets() {
        for (int way = 0; way <= 3; way++) {
            SevenKeys x = new SevenKeys();
            x.put(2, 0, 4, 1);
            CHECK.due("join(2, 0, 1, " + way + "), both empty", x.join(2, 0, 1, way), 0);
            CHECK.same("all slots", Sight.ofAll(x), " |  |  |  | kept 0");
        }
    }

    private static void joinWithAFullSet() {
        int[] fullFirst = {ALL, 7, ALL - 7, ALL - 7};
        int[] fullSecond = {ALL, 7, 0, ALL - 7};
        int[] bothFull = {ALL, ALL, 0, 0};
        for (int way = 0; way <= 3; way++) {
            SevenKeys x = new SevenKeys();
            x.put(0, 0, 4, 1);
            x.put(1, LAST, 1, 1);
            x.put(2, 0, 4, 1);
            CHECK.due("join(3, full, some, " + way + ")", x.join(3, 0, 1, way), fullFirst[way]);
            CHECK.due("join(3, some, full, " + way + ")", x.join(3, 1, 0, way), fullSecond[way]);
            CHECK.due("join(3, full, full, " + way + ")", x.join(3, 0, 2, way), bothFull[way]);
        }
    }

    private static void joinOneSlotTwice() {
        for (int way = 0; way <= 3; way++) {
            SevenKeys x = new SevenKeys();
            x.put(0, 0, 1, 1);
            x.put(1, 0, 4, 1);
            CHECK.due("join(1, 0, 0, " + way + ")", x.join(1, 0, 0, way), WITH_ITSELF[way].isEmpty() ? 0 : 7);
            slotIs(x, 0, "0/1");
            slotIs(x, 1, WITH_ITSELF[way]);
        }
    }

    private static SevenKeys overlapping() {
        SevenKeys x = new SevenKeys();
        x.put(0, 7, 0, 1);
        x.put(0, 8, 0, 1);
        x.put(1, 8, 0, 1);
        x.put(1, 9, 0, 1);
        return x;
    }

    private static void joinIntoTheFirst() {
        for (int way = 0; way <= 3; way++) {
            SevenKeys x = overlapping();
            x.join(0, 0, 1, way);
            slotIs(x, 0, OVERLAP[way]);
            slotIs(x, 1, "8/0 9/0");
        }
    }

    private static void joinIntoTheSecond() {
        for (int way = 0; way <= 3; way++) {
            SevenKeys x = overlapping();
            x.join(1, 0, 1, way);
            slotIs(x, 0, "7/0 8/0");
            slotIs(x, 1, OVERLAP[way]);
        }
    }

    private static void joinAllThreeTheSame() {
        for (int slot = 0; slot <= 3; slot += 3) {
            for (int way = 0; way <= 3; way++) {
                SevenKeys x = new SevenKeys();
                x.put(slot, 0, 1, 1);
                int due = WITH_ITSELF[way].isEmpty() ? 0 : 7;
                CHECK.due("join of one slot, way " + way, x.join(slot, slot, slot, way), due);
                slotIs(x, slot, WITH_ITSELF[way]);
            }
        }
    }

    private static void joinTakesThePlace() {
        for (int way = 0; way <= 3; way++) {
            SevenKeys x = overlapping();
            x.put(3, 0, 4, 1);
            x.put(3, 8, 0, 0);
            x.join(3, 0, 1, way);
            slotIs(x, 0, "7/0 8/0");
            slotIs(x, 1, "8/0 9/0");
            slotIs(x, 2, "");
            slotIs(x, 3, OVERLAP[way]);
        }
    }

    private static void joinAtFirstAndLastKey() {
        String[] due = {"0/0 1200/0 2400/0", "1200/0", "0/0", "0/0 2400/0"};
        for (int way = 0; way <= 3; way++) {
            SevenKeys x = new SevenKeys();
            x.put(0, 0, 0, 1);
            x.put(0, 1200, 0, 1);
            x.put(1, 1200, 0, 1);
            x.put(1, LAST, 0, 1);
            x.join(2, 0, 1, way);
            slotIs(x, 2, due[way]);
        }
    }

    private static void joinRefusedInItsOrder() {
        SevenKeys x = new SevenKeys();
        x.put(0, 8, 1, 1);
        for (int slot : new int[] {-1, 4}) {
            CHECK.due("join(no slot, 1, 1, 0)", x.join(slot, 1, 1, 0), UNKNOWN);
            CHECK.due("join(0, no slot, 1, 0)", x.join(0, slot, 1, 0), UNKNOWN);
            CHECK.due("join(0, 1, no slot, 0)", x.join(0, 1, slot, 0), UNKNOWN);
            CHECK.due("join(no slot, 1, 1, 4)", x.join(slot, 1, 1, 4), UNKNOWN);
            CHECK.due("join(0, no slot, 1, 4)", x.join(0, slot, 1, 4), UNKNOWN);
            CHECK.due("join(0, 1, no slot, 4)", x.join(0, 1, slot, 4), UNKNOWN);
        }
        CHECK.due("join(0, 1, 1, -1)", x.join(0, 1, 1, -1), OUTSIDE);
        CHECK.due("join(0, 1, 1, 4)", x.join(0, 1, 1, 4), OUTSIDE);
        slotIs(x, 0, "7/1");
    }

    // ---- promise 13

    private static void growEmpty() {
        for (int n = -1; n <= 1; n += 2) {
            SevenKeys x = new SevenKeys();
            x.put(1, 0, 4, 1);
            CHECK.due("grow(0, 0, " + n + "), empty", x.grow(0, 0, n), 0);
            CHECK.due("grow(1, 0, " + n + "), empty", x.grow(1, 0, n), 0);
            CHECK.same("all slots", Sight.ofAll(x), " |  |  |  | kept 0");
        }
    }

    private static void growFull() {
        SevenKeys x = new SevenKeys();
        x.put(0, 0, 4, 1);
        CHECK.due("grow(1, 0, 1), full", x.grow(1, 0, 1), ALL);
        slotIs(x, 1, "0/4");
        // 240 hexes have a side that leads off the sheet, where no point is of the set.
        CHECK.due("grow(1, 0, -1), full", x.grow(1, 0, -1), ALL - 240);
        CHECK.due("has(1, 2400)", x.has(1, LAST), 0);
        CHECK.due("has(1, 402), one side off", x.has(1, 402), 0);
        CHECK.due("has(1, 2394), within", x.has(1, 2394), 1);
        CHECK.due("grow(1, 1, 1), and back", x.grow(1, 1, 1), ALL);
    }

    private static void growOneHex() {
        SevenKeys x = new SevenKeys();
        x.put(0, 14, 0, 1);
        CHECK.due("grow(1, 0, 1)", x.grow(1, 0, 1), 7);
        slotIs(x, 1, "14/1");
        CHECK.due("grow(2, 1, -1)", x.grow(2, 1, -1), 1);
        slotIs(x, 2, "14/0");
        CHECK.due("grow(2, 2, -1), of one hex", x.grow(2, 2, -1), 0);
    }

    private static void growAtTheEdge() {
        SevenKeys x = new SevenKeys();
        x.put(0, LAST, 0, 1);
        CHECK.due("grow(1, 0, 1), of 2400", x.grow(1, 0, 1), 4);
        slotIs(x, 1, "2394/0 2395/0 2399/0 2400/0");
        x.disk(0, 400, 0);
        CHECK.due("grow(1, 0, 1), of 400", x.grow(1, 0, 1), 4);
        slotIs(x, 1, "399/0 400/0 401/0 405/0");
        x.put(2, 343, 3, 1);
        CHECK.due("grow(2, 2, 1), of a patch at the edge", x.grow(2, 2, 1), 385);
        x.put(3, 0, 3, 1);
        CHECK.due("grow(3, 3, 1), of the inmost patch", x.grow(3, 3, 1), 427);
    }

    /** All six next to a hex must be of the set: those of 2400 that are of the sheet don't do. */
    private static void shrinkAtTheEdge() {
        SevenKeys x = new SevenKeys();
        x.disk(0, LAST, 2);
        CHECK.due("grow(1, 0, -1)", x.grow(1, 0, -1), 1);
        slotIs(x, 1, "2394/0");
        x.put(2, LAST, 3, 1);
        CHECK.due("grow(2, 2, -1), of a patch at the edge", x.grow(2, 2, -1), 265);
        x.put(3, 0, 3, 1);
        CHECK.due("grow(3, 3, -1), of the inmost patch", x.grow(3, 3, -1), 265);
    }

    private static void shrinkAroundAHole() {
        SevenKeys x = new SevenKeys();
        x.put(0, 0, 4, 1);
        x.put(0, 0, 0, 0);
        CHECK.due("grow(1, 0, -1), without 0", x.grow(1, 0, -1), 2154);
        CHECK.due("has(1, 0), not of it before", x.has(1, 0), 0);
        CHECK.due("has(1, 1), next to it", x.has(1, 1), 0);
        CHECK.due("has(1, 7)", x.has(1, 7), 1);
        CHECK.due("grow(1, 0, 1), without 0", x.grow(1, 0, 1), ALL);
        // Six around one that is not of the set: it does not come by -1, and comes by 1.
        x.put(2, 0, 1, 1);
        x.put(2, 0, 0, 0);
        CHECK.due("grow(3, 2, -1), six around a hole", x.grow(3, 2, -1), 0);
        CHECK.due("grow(3, 2, 1), six around a hole", x.grow(3, 2, 1), 19);
    }

    /** What has come does not grow on in the same call. */
    private static void growIntoItsOwn() {
        for (int slot = 0; slot <= 3; slot += 3) {
            SevenKeys x = new SevenKeys();
            x.put(slot, 0, 0, 1);
            CHECK.due("grow, first", x.grow(slot, slot, 1), 7);
            CHECK.due("grow, second", x.grow(slot, slot, 1), 19);
            CHECK.due("grow back", x.grow(slot, slot, -1), 7);
            CHECK.due("grow back", x.grow(slot, slot, -1), 1);
            slotIs(x, slot, "0/0");
        }
    }

    private static void growTakesThePlace() {
        SevenKeys x = new SevenKeys();
        x.put(0, 14, 0, 1);
        x.put(1, 14, 1, 1);
        x.put(2, 0, 4, 1);
        x.put(3, 0, 4, 1);
        CHECK.due("grow(2, 0, 1)", x.grow(2, 0, 1), 7);
        CHECK.due("grow(3, 1, -1)", x.grow(3, 1, -1), 1);
        CHECK.same("all slots", Sight.ofAll(x), "14/0 | 14/1 | 14/1 | 14/0 | kept 0");
    }

    private static void growRefusedInItsOrder() {
        SevenKeys x = new SevenKeys();
        x.put(0, 8, 1, 1);
        for (int slot : new int[] {-1, 4}) {
            CHECK.due("grow(no slot, 0, 1)", x.grow(slot, 0, 1), UNKNOWN);
            CHECK.due("grow(0, no slot, 1)", x.grow(0, slot, 1), UNKNOWN);
            CHECK.due("grow(no slot, 0, 0)", x.grow(slot, 0, 0), UNKNOWN);
            CHECK.due("grow(0, no slot, 0)", x.grow(0, slot, 0), UNKNOWN);
        }
        for (int n : new int[] {-2, 0, 2}) {
            CHECK.due("grow(0, 0, " + n + ")", x.grow(0, 0, n), OUTSIDE);
            CHECK.due("grow(0, 1, " + n + ")", x.grow(0, 1, n), OUTSIDE);
        }
        slotIs(x, 0, "7/1");
    }
}
