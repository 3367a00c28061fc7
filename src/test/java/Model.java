import java.util.ArrayDeque;
import java.util.ArrayList;
import java.util.Comparator;
import java.util.Deque;
import java.util.HashMap;
import java.util.HashSet;
import java.util.List;
import java.util.Map;
import java.util.Set;
import java.util.TreeMap;
import java.util.TreeSet;

/**
 * The document's words once more, by the Java library and without regard to speed, so that the
 * class can be held against something that was built in another way.
 */
final class Model {
    private static final int UNKNOWN = -1;
    private static final int OUTSIDE = -2;
    private static final int STATE = -3;
    private static final int NONE = -6;

    record Point(int a, int b) {
        Point plus(Point p) {
            return new Point(a + p.a, b + p.b);
        }

        Point less(Point p) {
            return new Point(a - p.a, b - p.b);
        }
    }

    record Patch(int key, int level) { }

    private static final List<Point> SIDES = List.of(new Point(0, 0), new Point(1, 0),
        new Point(0, 1), new Point(-1, 1), new Point(-1, 0), new Point(0, -1), new Point(1, -1));
    private static final List<Point> POINTS = pointsOfAllKeys();
    private static final Map<Point, Integer> KEYS = keysOfAllPoints();
    private static final Map<Point, Integer> FAR = farFromMiddle();
    private static final List<List<Integer>> NEIGHBOURS = neighboursOfAllKeys();

    private List<TreeSet<Integer>> slots = new ArrayList<>();
    private final Map<Integer, List<TreeSet<Integer>>> images = new TreeMap<>();

    Model() {
        for (int slot = 0; slot < 4; slot++) {
            slots.add(new TreeSet<>());
        }
    }

    private static List<Point> pointsOfAllKeys() {
        List<Point> points = new ArrayList<>();
        for (int key = 0; key < 2401; key++) {
            String figures = Integer.toString(2401 + key, 7).substring(1);
            Point p = new Point(0, 0);
            for (char figure : figures.toCharArray()) {
                p = new Point(2 * p.a - p.b, p.a + 3 * p.b).plus(SIDES.get(figure - '0'));
            }
            points.add(p);
        }
        return points;
    }

    private static Map<Point, Integer> keysOfAllPoints() {
        Map<Point, Integer> keys = new HashMap<>();
        for (int key = 0; key < 2401; key++) {
            keys.put(POINTS.get(key), key);
        }
        return keys;
    }

    /** Steps counted one by one, so that FAR rests on no formula. */
    private static Map<Point, Integer> farFromMiddle() {
        Map<Point, Integer> far = new HashMap<>();
        Deque<Point> open = new ArrayDeque<>();
        far.put(new Point(0, 0), 0);
        open.add(new Point(0, 0));
        while (!open.isEmpty()) {
            Point p = open.remove();
            for (int side = 1; side <= 6 && far.get(p) < 80; side++) {
                Point q = p.plus(SIDES.get(side));
                if (far.putIfAbsent(q, far.get(p) + 1) == null) {
                    open.add(q);
                }
            }
        }
        return far;
    }

    private static boolean isKey(int key) {
        return key >= 0 && key < 2401;
    }

    private static boolean isSlot(int slot) {
        return slot >= 0 && slot < 4;
    }

    private static boolean isLevel(int level) {
        return level >= 0 && level <= 4;
    }

    private static int size(int level) {
        return List.of(1, 7, 49, 343, 2401).get(level);
    }

    private static int least(int key, int level) {
        return key / size(level) * size(level);
    }

    private static int beside(int key, int side) {
        return KEYS.getOrDefault(POINTS.get(key).plus(SIDES.get(side)), NONE);
    }

    private static Set<Integer> hexesOf(Patch patch) {
        Set<Integer> hexes = new TreeSet<>();
        for (int key = patch.key; key < patch.key + size(patch.level); key++) {
            hexes.add(key);
        }
        return hexes;
    }

    private static boolean liesIn(Set<Integer> set, Patch patch) {
        for (int key = patch.key; key < patch.key + size(patch.level); key++) {
            if (!set.contains(key)) {
                return false;
            }
        }
        return true;
    }

    private static List<Integer> nextTo(int key) {
        return NEIGHBOURS.get(key);
    }

    private static List<List<Integer>> neighboursOfAllKeys() {
        List<List<Integer>> all = new ArrayList<>();
        for (int key = 0; key < 2401; key++) {
            List<Integer> keys = new ArrayList<>();
            for (int side = 1; side <= 6; side++) {
                keys.add(beside(key, side));
            }
            keys.removeIf(k -> k == NONE);
            all.add(keys);
        }
        return all;
    }

    private static List<Patch> pack(Set<Integer> set) {
        Set<Patch> within = new HashSet<>();
        for (int level = 0; level <= 4; level++) {
            for (int key = 0; key < 2401; key += size(level)) {
                Patch patch = new Patch(key, level);
                if (liesIn(set, patch)) {
                    within.add(patch);
                }
            }
        }
        List<Patch> patches = new ArrayList<>();
        for (Patch patch : within) {
            int above = patch.level + 1;
            if (above > 4 || !within.contains(new Patch(least(patch.key, above), above))) {
                patches.add(patch);
            }
        }
        patches.sort(Comparator.comparingInt(Patch::key));
        return patches;
    }

    private static Map<Integer, Integer> stepsFrom(Set<Integer> set, int from) {
        Map<Integer, Integer> steps = new HashMap<>();
        Set<Integer> edge = new TreeSet<>(Set.of(from));
        for (int n = 0; !edge.isEmpty(); n++) {
            Set<Integer> beyond = new TreeSet<>();
            for (int key : edge) {
                steps.put(key, n);
                beyond.addAll(nextTo(key));
            }
            beyond.retainAll(set);
            beyond.removeAll(steps.keySet());
            edge = beyond;
        }
        return steps;
    }

    private static List<Set<Integer>> pieces(Set<Integer> set) {
        List<Set<Integer>> pieces = new ArrayList<>();
        TreeSet<Integer> rest = new TreeSet<>(set);
        while (!rest.isEmpty()) {
            Set<Integer> piece = new HashSet<>(stepsFrom(set, rest.first()).keySet());
            pieces.add(piece);
            rest.removeAll(piece);
        }
        return pieces;
    }

    private static int border(Set<Integer> set) {
        int border = 0;
        for (int key : set) {
            for (int side = 1; side <= 6; side++) {
                border += set.contains(beside(key, side)) ? 0 : 1;
            }
        }
        return border;
    }

    int point(int key, int what) {
        if (!isKey(key) || what < 0 || what > 1) {
            return OUTSIDE;
        }
        return 1000 + (what == 0 ? POINTS.get(key).a : POINTS.get(key).b);
    }

    int key(int a, int b) {
        if (a < -100 || a > 100 || b < -100 || b > 100) {
            return OUTSIDE;
        }
        return KEYS.getOrDefault(new Point(a, b), NONE);
    }

    int next(int key, int side) {
        return !isKey(key) || side < 1 || side > 6 ? OUTSIDE : beside(key, side);
    }

    int far(int one, int other) {
        if (!isKey(one) || !isKey(other)) {
            return OUTSIDE;
        }
        return FAR.get(POINTS.get(other).less(POINTS.get(one)));
    }

    int side(int one, int other) {
        if (!isKey(one) || !isKey(other)) {
            return OUTSIDE;
        }
        int side = SIDES.indexOf(POINTS.get(other).less(POINTS.get(one)));
        return side < 0 ? NONE : side;
    }

    int patch(int key, int level) {
        return !isKey(key) || !isLevel(level) ? OUTSIDE : least(key, level);
    }

    int around(int key, int level) {
        if (!isKey(key) || !isLevel(level)) {
            return OUTSIDE;
        }
        Patch own = new Patch(least(key, level), level);
        Set<Integer> others = new TreeSet<>();
        for (int hex : hexesOf(own)) {
            for (int neighbour : nextTo(hex)) {
                others.add(least(neighbour, level));
            }
        }
        others.remove(own.key);
        return others.size();
    }

    int ring(int key, int n) {
        if (!isKey(key) || n < 0 || n > 70) {
            return OUTSIDE;
        }
        int hexes = 0;
        for (int hex = 0; hex < 2401; hex++) {
            hexes += far(key, hex) == n ? 1 : 0;
        }
        return hexes;
    }

    int put(int slot, int key, int level, int on) {
        if (!isSlot(slot)) {
            return UNKNOWN;
        }
        if (!isKey(key) || !isLevel(level) || on < 0 || on > 1) {
            return OUTSIDE;
        }
        Set<Integer> hexes = hexesOf(new Patch(least(key, level), level));
        if (on == 1) {
            slots.get(slot).addAll(hexes);
        } else {
            slots.get(slot).removeAll(hexes);
        }
        return slots.get(slot).size();
    }

    int disk(int slot, int key, int n) {
        if (!isSlot(slot)) {
            return UNKNOWN;
        }
        if (!isKey(key) || n < 0 || n > 70) {
            return OUTSIDE;
        }
        TreeSet<Integer> set = new TreeSet<>();
        for (int hex = 0; hex < 2401; hex++) {
            if (far(key, hex) <= n) {
                set.add(hex);
            }
        }
        slots.set(slot, set);
        return set.size();
    }

    int join(int to, int one, int other, int way) {
        if (!isSlot(to) || !isSlot(one) || !isSlot(other)) {
            return UNKNOWN;
        }
        if (way < 0 || way > 3) {
            return OUTSIDE;
        }
        TreeSet<Integer> any = new TreeSet<>(slots.get(one));
        any.addAll(slots.get(other));
        TreeSet<Integer> both = new TreeSet<>(slots.get(one));
        both.retainAll(slots.get(other));
        TreeSet<Integer> first = new TreeSet<>(slots.get(one));
        first.removeAll(slots.get(other));
        TreeSet<Integer> justOne = new TreeSet<>(any);
        justOne.removeAll(both);
        slots.set(to, List.of(any, both, first, justOne).get(way));
        return slots.get(to).size();
    }

    int grow(int to, int from, int n) {
        if (!isSlot(to) || !isSlot(from)) {
            return UNKNOWN;
        }
        if (n != 1 && n != -1) {
            return OUTSIDE;
        }
        TreeSet<Integer> old = slots.get(from);
        TreeSet<Integer> set = new TreeSet<>();
        for (int key : old) {
            List<Integer> neighbours = nextTo(key);
            if (n == 1) {
                set.add(key);
                set.addAll(neighbours);
            } else if (neighbours.size() == 6 && old.containsAll(neighbours)) {
                set.add(key);
            }
        }
        slots.set(to, set);
        return set.size();
    }

    int has(int slot, int key) {
        if (!isSlot(slot)) {
            return UNKNOWN;
        }
        if (!isKey(key)) {
            return OUTSIDE;
        }
        return slots.get(slot).contains(key) ? 1 : 0;
    }

    int about(int slot, int what) {
        if (!isSlot(slot)) {
            return UNKNOWN;
        }
        TreeSet<Integer> set = slots.get(slot);
        switch (what) {
            case 0: return set.size();
            case 1: return pack(set).size();
            case 2: return border(set);
            case 3: return pieces(set).size();
            case 4: return pieces(set).stream().mapToInt(Set::size).max().orElse(0);
            case 5: return set.isEmpty() ? NONE : set.first();
            case 6: return set.isEmpty() ? NONE : set.last();
            default: return OUTSIDE;
        }
    }

    int packed(int slot, int i, int what) {
        if (!isSlot(slot)) {
            return UNKNOWN;
        }
        if (what < 0 || what > 1) {
            return OUTSIDE;
        }
        List<Patch> patches = pack(slots.get(slot));
        if (i < 0 || i >= patches.size()) {
            return NONE;
        }
        return what == 0 ? patches.get(i).key : patches.get(i).level;
    }

    int piece(int slot, int key) {
        if (!isSlot(slot)) {
            return UNKNOWN;
        }
        if (!isKey(key)) {
            return OUTSIDE;
        }
        List<Set<Integer>> pieces = pieces(slots.get(slot));
        for (int i = 0; i < pieces.size(); i++) {
            if (pieces.get(i).contains(key)) {
                return i;
            }
        }
        return NONE;
    }

    int way(int slot, int from, int to) {
        if (!isSlot(slot)) {
            return UNKNOWN;
        }
        if (!isKey(from) || !isKey(to)) {
            return OUTSIDE;
        }
        Set<Integer> set = slots.get(slot);
        return set.contains(from) ? stepsFrom(set, from).getOrDefault(to, NONE) : NONE;
    }

    int alike(int one, int other) {
        if (!isSlot(one) || !isSlot(other)) {
            return UNKNOWN;
        }
        Set<Integer> first = slots.get(one);
        Set<Integer> second = slots.get(other);
        if (first.equals(second)) {
            return 0;
        }
        if (second.containsAll(first)) {
            return 1;
        }
        if (first.containsAll(second)) {
            return 2;
        }
        return first.stream().noneMatch(second::contains) ? 3 : 4;
    }

    private static List<TreeSet<Integer>> copy(List<TreeSet<Integer>> sets) {
        List<TreeSet<Integer>> copies = new ArrayList<>();
        for (TreeSet<Integer> set : sets) {
            copies.add(new TreeSet<>(set));
        }
        return copies;
    }

    int image(int k) {
        if (k < 0 || k > 1) {
            return OUTSIDE;
        }
        images.put(k, copy(slots));
        return 1;
    }

    int restore(int k) {
        if (k < 0 || k > 1) {
            return OUTSIDE;
        }
        if (!images.containsKey(k)) {
            return STATE;
        }
        slots = copy(images.get(k));
        return 1;
    }

    int count(int what) {
        switch (what) {
            case 0:
                Set<Integer> all = new TreeSet<>();
                slots.forEach(all::addAll);
                return all.size();
            case 1:
                return slots.stream().mapToInt(set -> pack(set).size()).sum();
            case 2:
                return images.keySet().stream().mapToInt(k -> 1 << k).sum();
            default:
                return OUTSIDE;
        }
    }
}
