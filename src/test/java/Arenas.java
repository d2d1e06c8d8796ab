/** Arenas in states that tests begin with, and all that can be seen of an arena. */
final class Arenas {
    private Arenas() { }

    static void putAll(Arena x, int map, int... keys) {
        for (int key : keys) {
            Check.dueOutcome("put " + key + " is new", () -> x.put(map, key, valueOf(key)), false);
        }
    }

    /** The value that putAll gives. */
    static int valueOf(int key) {
        return key * 3 + 1;
    }

    /** Puts keys from 0 on until the map has this capacity. */
    static void growTo(Arena x, int map, int capacity) {
        for (int key = 0; key < 128 && x.about(map, 0) < capacity; key++) {
            if (!x.has(map, key)) {
                x.put(map, key, valueOf(key));
            }
        }
        Check.due("capacity of map " + map, x.about(map, 0), capacity);
    }

    static void removeAll(Arena x, int map) {
        for (int place = x.next(map, 0); place != HopArena.NONE; place = x.next(map, 0)) {
            x.remove(map, x.key(map, place));
        }
    }

    /** This map has this capacity and all places free, the others are as at first, but perhaps for their bases. */
    static Arena empty(int map, int capacity) {
        Arena x = new Arena();
        growTo(x, map, capacity);
        removeAll(x, map);
        Check.due("seed of map " + map, x.about(map, 2), KeyFinder.seed(map, capacity));
        return x;
    }

    /** Map 0 has capacity 16 and all places free; no key was moved so far. */
    static Arena withSixteen() {
        Arena x = empty(0, 16);
        Check.due("no moves so far", x.count(0), 0);
        return x;
    }

    /** Larger maps come first, for a map that grows needs room for its old part, too. */
    static Arena withCapacities(int... capacities) {
        Arena x = new Arena();
        for (int capacity = 128; capacity > 8; capacity /= 2) {
            for (int map = 0; map < 3; map++) {
                if (capacities[map] == capacity) {
                    growTo(x, map, capacity);
                }
            }
        }
        return x;
    }

    /** A map's capacity, seed, and the keys with their values at their places. */
    static String contents(Arena x, int map) {
        int capacity = x.about(map, 0);
        StringBuilder told = new StringBuilder("capacity " + capacity + " seed " + x.about(map, 2));
        for (int place = 0; place < capacity; place++) {
            int p = place;
            String key = Check.outcome(() -> x.key(map, p));
            if (!key.equals("NoSuchElementException")) {
                told.append(' ').append(place).append(':').append(key).append('=')
                        .append(Check.outcome(() -> x.get(map, Integer.parseInt(key))));
            }
        }
        return told.toString();
    }

    /** What contents tells of a map that holds these keys, given by places; 0 stands for a free place. */
    static String contentsOf(int seed, int... keysByPlace) {
        StringBuilder told = new StringBuilder("capacity " + keysByPlace.length + " seed " + seed);
        for (int place = 0; place < keysByPlace.length; place++) {
            int key = keysByPlace[place];
            if (key != 0) {
                told.append(' ').append(place).append(':').append(key).append('=').append(valueOf(key));
            }
        }
        return told.toString();
    }

    static String contents(Arena x) {
        return contents(x, 0) + "; " + contents(x, 1) + "; " + contents(x, 2);
    }

    static String capacities(Arena x) {
        return x.about(0, 0) + " " + x.about(1, 0) + " " + x.about(2, 0);
    }

    static String bases(Arena x) {
        return x.about(0, 1) + " " + x.about(1, 1) + " " + x.about(2, 1);
    }

    static String counts(Arena x) {
        return x.count(0) + " " + x.count(1) + " " + x.count(2);
    }

    static String all(Arena x) {
        return contents(x) + "; bases " + bases(x) + "; counts " + counts(x);
    }
}
