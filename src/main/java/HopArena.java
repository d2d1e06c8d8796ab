import java.util.NoSuchElementException;

/** Three maps from int to int that share one arena of slots, each with hopscotch hashing in its own part. */
public final class HopArena {
    public static final int NONE = -1;

    private static final int SLOTS = 256;
    private static final int MAPS = 3;
    private static final int LEAST_CAPACITY = 8;
    private static final int MOST_CAPACITY = 128;

    /** From the least capacity to the greatest one. */
    private static final int MOST_DOUBLINGS = 4;

    /** A key lies fewer than this many places behind its home. */
    private static final int REACH = 8;

    private static final int CAPACITY = 0;
    private static final int BASE = 1;
    private static final int SEED = 2;

    private static final int MOVES = 0;
    private static final int NEW_PARTS = 1;
    private static final int PUSHES = 2;
    private static final int COUNTS = 3;

    private final int[] keys;
    private final int[] values;
    private final boolean[] taken;
    private final Part[] parts;
    private final int[] counts;

    /** No map's part: the next new part is described here, so that growing makes no object. */
    private Part spare;

    /** Where a map lies in the arena, and how it finds homes there. */
    private static final class Part {
        int base;
        int capacity;
        int seed;

        Part(int base, int capacity, int seed) {
            this.base = base;
            this.capacity = capacity;
            this.seed = seed;
        }

        /** Capacities are powers of two, so that a mask goes around in both directions. */
        int around(int place) {
            return place & (capacity - 1);
        }

        int slotOf(int place) {
            return base + (place & (capacity - 1));
        }

        int homeOf(int key) {
            return ((key ^ seed) * -1640531535 >>> 9) & (capacity - 1);
        }

        int end() {
            return base + capacity;
        }

        boolean isPlace(int place) {
            return place >= 0 && place < capacity;
        }
    }

    public HopArena() {
        keys = new int[SLOTS];
        values = new int[SLOTS];
        taken = new boolean[SLOTS];
        counts = new int[COUNTS];
        parts = new Part[MAPS];
        for (int map = 0; map < MAPS; map++) {
            parts[map] = new Part(map * LEAST_CAPACITY, LEAST_CAPACITY, map + 1);
        }
        spare = new Part(0, LEAST_CAPACITY, 0);
    }

    public boolean put(int map, int key, int value) throws IndexOutOfBoundsException, ArithmeticException {
        Part part = partOf(map);
        int slot = slotOrNone(part, key);
        if (slot != NONE) {
            values[slot] = value;
            return true;
        }
        if (!insert(part, key, value) && !growWith(map, key, value)) {
            throw new ArithmeticException("growing was refused");
        }
        return false;
    }

    public int get(int map, int key) throws IndexOutOfBoundsException, NoSuchElementException {
        return values[slotHolding(partOf(map), key)];
    }

    public int remove(int map, int key) throws IndexOutOfBoundsException, NoSuchElementException {
        int slot = slotHolding(partOf(map), key);
        taken[slot] = false;
        return values[slot];
    }

    public boolean has(int map, int key) throws IndexOutOfBoundsException {
        return slotOrNone(partOf(map), key) != NONE;
    }

    public int size(int map) throws IndexOutOfBoundsException {
        return keysIn(partOf(map));
    }

    public int clear(int map) throws IndexOutOfBoundsException {
        Part part = partOf(map);
        int held = keysIn(part);
        part.capacity = LEAST_CAPACITY;
        freeAll(part);
        return held;
    }

    public int about(int map, int what) throws IndexOutOfBoundsException, IllegalArgumentException {
        Part part = partOf(map);
        switch (what) {
            case CAPACITY:
                return part.capacity;
            case BASE:
                return part.base;
            case SEED:
                return part.seed;
            default:
                throw new IllegalArgumentException("no such thing about a map");
        }
    }

    public int home(int map, int key) throws IndexOutOfBoundsException {
        return partOf(map).homeOf(key);
    }

    public int distance(int map, int key) throws IndexOutOfBoundsException, NoSuchElementException {
        Part part = partOf(map);
        int place = slotHolding(part, key) - part.base;
        return part.around(place - part.homeOf(key));
    }

    public int bits(int map, int place) throws IndexOutOfBoundsException, IllegalArgumentException {
        Part part = partOf(map);
        requirePlace(part, place);
        int row = 0;
        for (int i = 0; i < REACH; i++) {
            if (isBitSet(part, place, i)) {
                row |= 1 << i;
            }
        }
        return row;
    }

    public int next(int map, int place) throws IndexOutOfBoundsException, IllegalArgumentException {
        Part part = partOf(map);
        requirePlace(part, place);
        for (int candidate = place; candidate < part.capacity; candidate++) {
            if (taken[part.slotOf(candidate)]) {
                return candidate;
            }
        }
        return NONE;
    }

    public int key(int map, int place)
            throws IndexOutOfBoundsException, IllegalArgumentException, NoSuchElementException {
        Part part = partOf(map);
        requirePlace(part, place);
        int slot = part.slotOf(place);
        if (!taken[slot]) {
            throw new NoSuchElementException("the place is free");
        }
        return keys[slot];
    }

    public int count(int what) throws IllegalArgumentException {
        if (what < 0 || what >= COUNTS) {
            throw new IllegalArgumentException("no such count");
        }
        return counts[what];
    }

    private Part partOf(int map) {
        if (map < 0 || map >= MAPS) {
            throw new IndexOutOfBoundsException("no such map");
        }
        return parts[map];
    }

    private static void requirePlace(Part part, int place) {
        if (!part.isPlace(place)) {
            throw new IllegalArgumentException("no such place");
        }
    }

    private int slotHolding(Part part, int key) {
        int slot = slotOrNone(part, key);
        if (slot == NONE) {
            throw new NoSuchElementException("the key is not there");
        }
        return slot;
    }

    private int slotOrNone(Part part, int key) {
        int start = part.homeOf(key);
        for (int i = 0; i < REACH; i++) {
            int slot = part.slotOf(start + i);
            if (taken[slot] && keys[slot] == key) {
                return slot;
            }
        }
        return NONE;
    }

    private int keysIn(Part part) {
        int held = 0;
        for (int slot = part.base; slot < part.end(); slot++) {
            if (taken[slot]) {
                held++;
            }
        }
        return held;
    }

    private void freeAll(Part part) {
        for (int slot = part.base; slot < part.end(); slot++) {
            taken[slot] = false;
        }
    }

    private boolean isBitSet(Part part, int place, int i) {
        int slot = part.slotOf(place + i);
        return taken[slot] && part.homeOf(keys[slot]) == place;
    }

    /** Whether it did not fail; one that fails may have moved others. */
    private boolean insert(Part part, int key, int value) {
        int start = part.homeOf(key);
        int behind = stepsToFree(part, start);
        if (behind == NONE) {
            return false;
        }
        // Every hop brings the free place nearer, so that there are fewer hops than places.
        for (int hop = 0; hop < part.capacity && behind >= REACH; hop++) {
            int nearer = hopNearer(part, start + behind);
            if (nearer == 0) {
                return false;
            }
            behind -= nearer;
        }
        int slot = part.slotOf(start + behind);
        keys[slot] = key;
        values[slot] = value;
        taken[slot] = true;
        return true;
    }

    private int stepsToFree(Part part, int start) {
        for (int steps = 0; steps < part.capacity; steps++) {
            if (!taken[part.slotOf(start + steps)]) {
                return steps;
            }
        }
        return NONE;
    }

    /** Moves a key to the free place: by how many places the free place came nearer, 0 when no key can move. */
    private int hopNearer(Part part, int free) {
        for (int d = REACH - 1; d >= 1; d--) {
            int h = part.around(free - d);
            for (int i = 0; i < d; i++) {
                if (isBitSet(part, h, i)) {
                    int from = part.slotOf(h + i);
                    copySlot(from, part.slotOf(free));
                    taken[from] = false;
                    counts[MOVES]++;
                    return d - i;
                }
            }
        }
        return 0;
    }

    private void copySlot(int from, int to) {
        keys[to] = keys[from];
        values[to] = values[from];
        taken[to] = taken[from];
    }

    /** Whether it was not refused: the map has a larger part then, with the new key behind all others. */
    private boolean growWith(int map, int key, int value) {
        Part old = parts[map];
        Part fresh = spare;
        int sum = sumOfCapacities();
        int seed = old.seed;
        for (int doublings = 1; doublings <= MOST_DOUBLINGS; doublings++) {
            int capacity = old.capacity << doublings;
            if (capacity > MOST_CAPACITY || sum + capacity > SLOTS) {
                return false;
            }
            seed = seed * 1664525 + 1013904223;
            layOut(fresh, capacity, seed);
            if (insertAnew(old, fresh) && insert(fresh, key, value)) {
                parts[map] = fresh;
                spare = old;
                return true;
            }
        }
        return false;
    }

    private int sumOfCapacities() {
        int sum = 0;
        for (int map = 0; map < MAPS; map++) {
            sum += parts[map].capacity;
        }
        return sum;
    }

    private void layOut(Part fresh, int capacity, int seed) {
        if (lastEnd() + capacity > SLOTS) {
            pushTogether();
        }
        fresh.base = lastEnd();
        fresh.capacity = capacity;
        fresh.seed = seed;
        // Slots outside all parts keep what was in them.
        freeAll(fresh);
        counts[NEW_PARTS]++;
    }

    private int lastEnd() {
        int end = 0;
        for (int map = 0; map < MAPS; map++) {
            end = Math.max(end, parts[map].end());
        }
        return end;
    }

    private void pushTogether() {
        int end = 0;
        for (int turn = 0; turn < MAPS; turn++) {
            Part lowest = lowestFrom(end);
            if (lowest != null) {
                moveDown(lowest, end);
                end = lowest.end();
            }
        }
        counts[PUSHES]++;
    }

    /** Parts that were moved already lie below the end of the last one of them. */
    private Part lowestFrom(int end) {
        Part lowest = null;
        for (int map = 0; map < MAPS; map++) {
            Part part = parts[map];
            if (part.base >= end && (lowest == null || part.base < lowest.base)) {
                lowest = part;
            }
        }
        return lowest;
    }

    private void moveDown(Part part, int base) {
        for (int place = 0; place < part.capacity; place++) {
            copySlot(part.base + place, base + place);
        }
        part.base = base;
    }

    /** The old part stays as it is, for another try or for a refusal. */
    private boolean insertAnew(Part old, Part fresh) {
        for (int slot = old.base; slot < old.end(); slot++) {
            if (taken[slot] && !insert(fresh, keys[slot], values[slot])) {
                return false;
            }
        }
        return true;
    }
}
