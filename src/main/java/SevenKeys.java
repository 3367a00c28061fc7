import java.util.Arrays;

/** A sheet of hexes in nested sevens, and four slots that hold a set of its hexes each. */
public final class SevenKeys {
    public static final int UNKNOWN = -1, OUTSIDE = -2, STATE = -3, NONE = -6;

    private static final int KEYS = 2401;
    private static final int SIDES = 6;
    private static final int TOP_LEVEL = 4;
    private static final int SLOTS = 4;
    private static final int ALL_SLOTS = 15;
    private static final int IMAGES = 2;
    private static final int POINT_LIMIT = 100;
    private static final int FAR_LIMIT = 70;
    private static final int ADDED_TO_POINTS = 1000;

    private final Sheet sheet;

    // Bit s of a hex: it is of the set of slot s. The next four bits are what image 0 keeps of
    // it, the four behind them image 1's: one row for all three, as many objects share one room.
    private final int[] held;

    // Which images are kept, a bit each.
    private int keptImages;

    // Rows that a call works in; none hands anything on to a later call.
    private final int[] marks;
    private final int[] queue;

    public SevenKeys() {
        sheet = new Sheet();
        held = new int[KEYS];
        keptImages = 0;
        marks = new int[KEYS];
        queue = new int[KEYS];
    }

    // ---- 1 keys

    public int point(int key, int what) {
        if (!isKey(key) || !within(what, 0, 1)) {
            return OUTSIDE;
        }
        return ADDED_TO_POINTS + (what == 0 ? sheet.pointA(key) : sheet.pointB(key));
    }

    public int key(int a, int b) {
        if (!within(a, -POINT_LIMIT, POINT_LIMIT) || !within(b, -POINT_LIMIT, POINT_LIMIT)) {
            return OUTSIDE;
        }
        return sheet.keyOf(a, b);
    }

    public int next(int key, int side) {
        if (!isKey(key) || !within(side, 1, SIDES)) {
            return OUTSIDE;
        }
        return sheet.neighbour(key, side);
    }

    public int far(int one, int other) {
        if (!isKey(one) || !isKey(other)) {
            return OUTSIDE;
        }
        return sheet.stepsApart(one, other);
    }

    public int side(int one, int other) {
        if (!isKey(one) || !isKey(other)) {
            return OUTSIDE;
        }
        for (int side = 0; side <= SIDES; side++) {
            if (sheet.neighbour(one, side) == other) {
                return side;
            }
        }
        return NONE;
    }

    public int patch(int key, int level) {
        if (!isKey(key) || !isLevel(level)) {
            return OUTSIDE;
        }
        return patchOf(key, level);
    }

    public int around(int key, int level) {
        if (!isKey(key) || !isLevel(level)) {
            return OUTSIDE;
        }
        Arrays.fill(marks, 0);
        int own = patchOf(key, level);
        int end = own + patchSize(level);
        int patches = 0;
        for (int hex = own; hex < end; hex++) {
            patches += markPatchesNextTo(hex, own, level);
        }
        return patches;
    }

    public int ring(int key, int n) {
        if (!isKey(key) || !within(n, 0, FAR_LIMIT)) {
            return OUTSIDE;
        }
        int hexes = 0;
        for (int hex = 0; hex < KEYS; hex++) {
            if (sheet.stepsApart(key, hex) == n) {
                hexes++;
            }
        }
        return hexes;
    }

    // ---- 2 sets

    public int put(int slot, int key, int level, int on) {
        if (!isSlot(slot)) {
            return UNKNOWN;
        }
        if (!isKey(key) || !isLevel(level) || !within(on, 0, 1)) {
            return OUTSIDE;
        }
        int least = patchOf(key, level);
        int end = least + patchSize(level);
        for (int hex = least; hex < end; hex++) {
            place(slot, hex, on == 1);
        }
        return sizeOf(slot);
    }

    public int disk(int slot, int key, int n) {
        if (!isSlot(slot)) {
            return UNKNOWN;
        }
        if (!isKey(key) || !within(n, 0, FAR_LIMIT)) {
            return OUTSIDE;
        }
        for (int hex = 0; hex < KEYS; hex++) {
            place(slot, hex, sheet.stepsApart(key, hex) <= n);
        }
        return sizeOf(slot);
    }

    public int join(int to, int one, int other, int way) {
        if (!isSlot(to) || !isSlot(one) || !isSlot(other)) {
            return UNKNOWN;
        }
        if (!within(way, 0, 3)) {
            return OUTSIDE;
        }
        for (int hex = 0; hex < KEYS; hex++) {
            place(to, hex, joined(holds(one, hex), holds(other, hex), way));
        }
        return sizeOf(to);
    }

    public int grow(int to, int from, int n) {
        if (!isSlot(to) || !isSlot(from)) {
            return UNKNOWN;
        }
        if (n != 1 && n != -1) {
            return OUTSIDE;
        }
        // All are looked at before the first is placed, as both slots may be the same.
        for (int hex = 0; hex < marks.length; hex++) {
            boolean in = n == 1 ? isOfOrNextTo(from, hex) : isDeepIn(from, hex);
            marks[hex] = in ? 1 : 0;
        }
        for (int hex = 0; hex < marks.length; hex++) {
            place(to, hex, marks[hex] == 1);
        }
        return sizeOf(to);
    }

    // ---- 3 what is told

    public int has(int slot, int key) {
        if (!isSlot(slot)) {
            return UNKNOWN;
        }
        if (!isKey(key)) {
            return OUTSIDE;
        }
        return holds(slot, key) ? 1 : 0;
    }

    public int about(int slot, int what) {
        if (!isSlot(slot)) {
            return UNKNOWN;
        }
        switch (what) {
            case 0:
                return sizeOf(slot);
            case 1:
                return countPacked(slot);
            case 2:
                return borderOf(slot);
            case 3:
                return countPieces(slot);
            case 4:
                return greatestPiece(slot);
            case 5:
                return leastKey(slot);
            case 6:
                return greatestKey(slot);
            default:
                return OUTSIDE;
        }
    }

    public int packed(int slot, int i, int what) {
        if (!isSlot(slot)) {
            return UNKNOWN;
        }
        if (!within(what, 0, 1)) {
            return OUTSIDE;
        }
        int least = packedKey(slot, i);
        if (least == NONE || what == 0) {
            return least;
        }
        return packedLevel(slot, least);
    }

    public int piece(int slot, int key) {
        if (!isSlot(slot)) {
            return UNKNOWN;
        }
        if (!isKey(key)) {
            return OUTSIDE;
        }
        if (!holds(slot, key)) {
            return NONE;
        }
        Arrays.fill(marks, 0);
        int before = 0;
        for (int seed = 0; seed < key; seed++) {
            if (startsPiece(slot, seed)) {
                flood(slot, seed);
                if (isMarked(key)) {
                    return before;
                }
                before++;
            }
        }
        return before;
    }

    public int way(int slot, int from, int to) {
        if (!isSlot(slot)) {
            return UNKNOWN;
        }
        if (!isKey(from) || !isKey(to)) {
            return OUTSIDE;
        }
        if (!holds(slot, from) || !holds(slot, to)) {
            return NONE;
        }
        Arrays.fill(marks, 0);
        flood(slot, from);
        return isMarked(to) ? valueAt(marks, to) - 1 : NONE;
    }

    public int alike(int one, int other) {
        if (!isSlot(one) || !isSlot(other)) {
            return UNKNOWN;
        }
        boolean onlyInOne = false;
        boolean onlyInOther = false;
        boolean inBoth = false;
        for (int hex = 0; hex < KEYS; hex++) {
            boolean inOne = holds(one, hex);
            boolean inOther = holds(other, hex);
            onlyInOne = onlyInOne || inOne && !inOther;
            onlyInOther = onlyInOther || inOther && !inOne;
            inBoth = inBoth || inOne && inOther;
        }
        if (!onlyInOne) {
            return onlyInOther ? 1 : 0;
        }
        if (!onlyInOther) {
            return 2;
        }
        return inBoth ? 4 : 3;
    }

    // ---- 4 images

    public int image(int k) {
        if (!within(k, 0, IMAGES - 1)) {
            return OUTSIDE;
        }
        int shift = imageShift(k);
        for (int hex = 0; hex < held.length; hex++) {
            int others = held[hex] & ~(ALL_SLOTS << shift);
            held[hex] = others | ((held[hex] & ALL_SLOTS) << shift);
        }
        keptImages = keptImages | (1 << k);
        return 1;
    }

    public int restore(int k) {
        if (!within(k, 0, IMAGES - 1)) {
            return OUTSIDE;
        }
        if ((keptImages >> k & 1) == 0) {
            return STATE;
        }
        int shift = imageShift(k);
        for (int hex = 0; hex < held.length; hex++) {
            held[hex] = (held[hex] & ~ALL_SLOTS) | (held[hex] >> shift & ALL_SLOTS);
        }
        return 1;
    }

    public int count(int what) {
        switch (what) {
            case 0:
                return countHeldByAny();
            case 1:
                return countPackedOfAll();
            case 2:
                return keptImages;
            default:
                return OUTSIDE;
        }
    }

    // ---- what numbers are as told

    private static boolean within(int number, int least, int greatest) {
        return least <= number && number <= greatest;
    }

    private static boolean isKey(int key) {
        return within(key, 0, KEYS - 1);
    }

    private static boolean isLevel(int level) {
        return within(level, 0, TOP_LEVEL);
    }

    private static boolean isSlot(int slot) {
        return within(slot, 0, SLOTS - 1);
    }

    private static int valueAt(int[] row, int i) {
        return 0 <= i && i < row.length ? row[i] : NONE;
    }

    // ---- patches

    private static int patchSize(int level) {
        int size = 1;
        for (int i = 0; i < level; i++) {
            size = size * 7;
        }
        return size;
    }

    private static int patchOf(int key, int level) {
        int firstFigures = key;
        for (int i = 0; i < level; i++) {
            firstFigures = firstFigures / 7;
        }
        return firstFigures * patchSize(level);
    }

    /** Marks the patches of a level next to a hex of one, and tells how many were not yet marked. */
    private int markPatchesNextTo(int hex, int own, int level) {
        int fresh = 0;
        for (int side = 1; side <= SIDES; side++) {
            int neighbour = sheet.neighbour(hex, side);
            int least = neighbour == NONE ? own : patchOf(neighbour, level);
            if (least != own && !isMarked(least)) {
                mark(least, 1);
                fresh++;
            }
        }
        return fresh;
    }

    // ---- sets

    private boolean holds(int slot, int key) {
        return 0 <= key && key < held.length && (held[key] >> slot & 1) == 1;
    }

    private void place(int slot, int key, boolean in) {
        if (0 <= key && key < held.length) {
            int others = held[key] & ~(1 << slot);
            held[key] = in ? others | (1 << slot) : others;
        }
    }

    private int sizeOf(int slot) {
        int hexes = 0;
        for (int hex = 0; hex < KEYS; hex++) {
            if (holds(slot, hex)) {
                hexes++;
            }
        }
        return hexes;
    }

    private int leastKey(int slot) {
        for (int hex = 0; hex < KEYS; hex++) {
            if (holds(slot, hex)) {
                return hex;
            }
        }
        return NONE;
    }

    private int greatestKey(int slot) {
        for (int hex = KEYS - 1; hex >= 0; hex--) {
            if (holds(slot, hex)) {
                return hex;
            }
        }
        return NONE;
    }

    private int countHeldByAny() {
        int hexes = 0;
        for (int hex = 0; hex < held.length; hex++) {
            if ((held[hex] & ALL_SLOTS) != 0) {
                hexes++;
            }
        }
        return hexes;
    }

    private static boolean joined(boolean inOne, boolean inOther, int way) {
        switch (way) {
            case 0:
                return inOne || inOther;
            case 1:
                return inOne && inOther;
            case 2:
                return inOne && !inOther;
            default:
                return inOne != inOther;
        }
    }

    private int countNeighbours(int slot, int hex) {
        int neighbours = 0;
        for (int side = 1; side <= SIDES; side++) {
            if (holds(slot, sheet.neighbour(hex, side))) {
                neighbours++;
            }
        }
        return neighbours;
    }

    private boolean isOfOrNextTo(int slot, int hex) {
        return holds(slot, hex) || countNeighbours(slot, hex) > 0;
    }

    private boolean isDeepIn(int slot, int hex) {
        return holds(slot, hex) && countNeighbours(slot, hex) == SIDES;
    }

    private int borderOf(int slot) {
        int border = 0;
        for (int hex = 0; hex < KEYS; hex++) {
            if (holds(slot, hex)) {
                border += SIDES - countNeighbours(slot, hex);
            }
        }
        return border;
    }

    private static int imageShift(int k) {
        return SLOTS * (k + 1);
    }

    // ---- sets packed

    // The first key of a set that no earlier patch packed has taken begins the next one: a patch
    // that lies in the set and holds this key and a lesser one would have taken it before.

    private int countPacked(int slot) {
        int patches = 0;
        int taken = 0;
        for (int key = 0; key < KEYS; key++) {
            if (key >= taken && holds(slot, key)) {
                taken = key + patchSize(packedLevel(slot, key));
                patches++;
            }
        }
        return patches;
    }

    private int countPackedOfAll() {
        int patches = 0;
        for (int slot = 0; slot < SLOTS; slot++) {
            patches += countPacked(slot);
        }
        return patches;
    }

    /** The least key of the i-th patch of a set packed, or NONE. */
    private int packedKey(int slot, int i) {
        int before = 0;
        int taken = 0;
        for (int key = 0; key < KEYS; key++) {
            if (key >= taken && holds(slot, key)) {
                if (before == i) {
                    return key;
                }
                taken = key + patchSize(packedLevel(slot, key));
                before++;
            }
        }
        return NONE;
    }

    /** The level of the greatest patch that begins with a key of a set and lies in it. */
    private int packedLevel(int slot, int key) {
        int level = 0;
        while (level < TOP_LEVEL && patchLiesIn(slot, key, level + 1)) {
            level++;
        }
        return level;
    }

    private boolean patchLiesIn(int slot, int key, int level) {
        if (patchOf(key, level) != key) {
            return false;
        }
        int end = key + patchSize(level);
        for (int hex = key; hex < end; hex++) {
            if (!holds(slot, hex)) {
                return false;
            }
        }
        return true;
    }

    // ---- pieces and ways

    private boolean isMarked(int key) {
        return valueAt(marks, key) > 0;
    }

    private void mark(int key, int value) {
        if (0 <= key && key < marks.length) {
            marks[key] = value;
        }
    }

    private boolean startsPiece(int slot, int key) {
        return holds(slot, key) && !isMarked(key);
    }

    private int countPieces(int slot) {
        Arrays.fill(marks, 0);
        int pieces = 0;
        for (int seed = 0; seed < KEYS; seed++) {
            if (startsPiece(slot, seed)) {
                flood(slot, seed);
                pieces++;
            }
        }
        return pieces;
    }

    private int greatestPiece(int slot) {
        Arrays.fill(marks, 0);
        int greatest = 0;
        for (int seed = 0; seed < KEYS; seed++) {
            if (startsPiece(slot, seed)) {
                greatest = Math.max(greatest, flood(slot, seed));
            }
        }
        return greatest;
    }

    /** Marks each hex of the seed's piece with its steps from the seed and one, and tells how many. */
    private int flood(int slot, int seed) {
        mark(seed, 1);
        int queued = enqueue(seed, 0);
        for (int head = 0; head < queue.length && head < queued; head++) {
            queued = floodOn(slot, queue[head], queued);
        }
        return queued;
    }

    private int floodOn(int slot, int hex, int queued) {
        int tail = queued;
        int value = valueAt(marks, hex) + 1;
        for (int side = 1; side <= SIDES; side++) {
            int neighbour = sheet.neighbour(hex, side);
            if (startsPiece(slot, neighbour)) {
                mark(neighbour, value);
                tail = enqueue(neighbour, tail);
            }
        }
        return tail;
    }

    private int enqueue(int hex, int queued) {
        if (queued < 0 || queued >= queue.length) {
            return queued;
        }
        queue[queued] = hex;
        return queued + 1;
    }

    /** Where the hexes lie: a square grid of cells, row by row, that holds the keys. */
    private static final class Sheet {
        // No hex lies farther than 31 from (0, 0): with one cell more on each side, what is next
        // to a hex is on the grid, too.
        private static final int EDGE = 32;
        private static final int WIDTH = 65;

        private static final int[] SIDE_A = {0, 1, 0, -1, -1, 0, 1};
        private static final int[] SIDE_B = {0, 0, 1, 1, 0, -1, -1};

        // The same from cell to cell: a side's a counts for a whole row of the grid.
        private static final int[] SIDE_STEPS = {0, 65, 1, -64, -65, -1, 64};

        private final int[] cells;
        private final int[] keys;

        Sheet() {
            cells = new int[KEYS];
            keys = new int[WIDTH * WIDTH];
            Arrays.fill(keys, NONE);
            for (int key = 0; key < cells.length; key++) {
                int cell = cellByFigures(key);
                cells[key] = cell;
                if (0 <= cell && cell < keys.length) {
                    keys[cell] = key;
                }
            }
        }

        private static int cellByFigures(int key) {
            int a = 0;
            int b = 0;
            for (int place = KEYS / 7; place > 0; place = place / 7) {
                int figure = key / place % 7;
                int turnedA = 2 * a - b;
                int turnedB = a + 3 * b;
                a = turnedA + valueAt(SIDE_A, figure);
                b = turnedB + valueAt(SIDE_B, figure);
            }
            return cellAt(a, b);
        }

        private static int cellAt(int a, int b) {
            return (a + EDGE) * WIDTH + b + EDGE;
        }

        int pointA(int key) {
            return valueAt(cells, key) / WIDTH - EDGE;
        }

        int pointB(int key) {
            return valueAt(cells, key) % WIDTH - EDGE;
        }

        int keyOf(int a, int b) {
            if (!within(a, -EDGE, EDGE) || !within(b, -EDGE, EDGE)) {
                return NONE;
            }
            return valueAt(keys, cellAt(a, b));
        }

        /** The key next to a hex by a side (0: its own), or NONE. */
        int neighbour(int key, int side) {
            return valueAt(keys, valueAt(cells, key) + valueAt(SIDE_STEPS, side));
        }

        int stepsApart(int one, int other) {
            int a = pointA(one) - pointA(other);
            int b = pointB(one) - pointB(other);
            return Math.max(Math.max(Math.abs(a), Math.abs(b)), Math.abs(a + b));
        }
    }
}
