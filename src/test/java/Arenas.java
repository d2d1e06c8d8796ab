/** Objects in states that tests begin with, and all that can be seen of an object. */
final class Arenas {
    private Arenas() { }

    static void putAll(HopArena x, int map, int... keys) {
        for (int key : keys) {
            Check.dueOutcome("put " + key + " is new", () -> x.put(map, key, valueOf(key)), false);
        }
    }

    /** The value that putAll gives. */
    static int valueOf(int key) {
        return key * 3 + 1;
    }

    static void growTo(HopArena x, int map, int capacity) {
        for (int key = 0; key < 128 && x.about(map, 0) < capacity; key++) {
            x.put(map, key, valueOf(key));
        }
        Check.due("capacity of map " + map, x.about(map, 0), capacity);
    }

    static void removeAll(HopArena x, int map) {
        for (int place = x.next(map, 0); place != HopArena.NONE; place = x.next(map, 0)) {
            x.remove(map, x.key(map, place));
        }
    }

    /** Map 0 has capacity 16 and all places free; no key was moved so far. */
    static HopArena withSixteen() {
        HopArena x = new HopArena();
        growTo(x, 0, 16);
        removeAll(x, 0);
        Check.due("no moves so far", x.count(0), 0);
        return x;
    }

    /** A map's capacity, seed, and the keys with their values at their places. */
    static String contents(HopArena x, int map) {
        StringBuilder told = new StringBuilder();
        told.append("capacity ").append(x.about(map, 0)).append(" seed ").append(x.about(map, 2));
        for (int place = 0; place < x.about(map, 0); place++) {
            int p = place;
            String key = Check.outcome(() -> x.key(map, p));
            if (!key.equals("NoSuchElementException")) {
                told.append(' ').append(place).append(':').append(key).append('=')
                        .append(Check.outcome(() -> x.get(map, Integer.parseInt(key))));
            }
        }
        return told.toString();
    }

    static String bases(HopArena x) {
        return x.about(0, 1) + " " + x.about(1, 1) + " " + x.about(2, 1);
    }

    static String counts(HopArena x) {
        return x.count(0) + " " + x.count(1) + " " + x.count(2);
    }

    static String all(HopArena x) {
        return contents(x, 0) + "; " + contents(x, 1) + "; " + contents(x, 2) + "; bases " + bases(x)
                + "; counts " + counts(x);
    }
}
