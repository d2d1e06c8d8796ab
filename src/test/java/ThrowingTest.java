/** Calls that change nothing: each method with each wrong argument, and what the arena shows after it. */
public final class ThrowingTest {
    private static final int[] NO_MAPS = {-1, 3, 4, Integer.MIN_VALUE, Integer.MAX_VALUE};
    private static final int[] NONE_OF_THREE = {-1, 3, 4, Integer.MIN_VALUE, Integer.MAX_VALUE};
    private static final String NO_MAP = "IndexOutOfBoundsException";
    private static final String NO_ARGUMENT = "IllegalArgumentException";
    private static final String NO_ELEMENT = "NoSuchElementException";

    private static final Arena x = crowded();
    private static final String before = Arenas.all(x);

    public static void main(String[] args) {
        noSuchMap();
        mapsAtTheEdge();
        theOneNamedFirst();
        noSuchKey();
        noSuchWhat();
        noSuchPlace();
        freePlace();
        callsThatOnlyTell();
        refused();
        Check.end();
    }

    /** Parts of several capacities with gaps before them, keys in each, all counts above 0; key 5 is in none. */
    private static Arena crowded() {
        Arena crowded = Arenas.withCapacities(64, 64, 32);
        for (int map = 0; map < 3; map++) {
            crowded.remove(map, 5);
        }
        for (int key = 1000; crowded.count(0) == 0; key++) {
            Arenas.putAll(crowded, 1, key);
        }
        Check.due("all happened", crowded.count(0) > 0 && crowded.count(1) > 0 && crowded.count(2) > 0, true);
        return crowded;
    }

    private static void dueUnchanged(String what, Check.Call call, String due) {
        x.startAnew();
        int objects = x.objects();
        Check.dueOutcome(what, call, due);
        Check.due("after " + what, Arenas.all(x), before);
        Check.due("all this was seen of one object", x.objects(), objects);
    }

    private static void noSuchMap() {
        Check.sentence("IndexOutOfBoundsException: there is no such map.");
        for (int map : NO_MAPS) {
            // A key that is there in all maps, and one that is in none.
            for (int key : new int[] {3, 5}) {
                dueUnchanged("put " + map, () -> x.put(map, key, 1), NO_MAP);
                dueUnchanged("get " + map, () -> x.get(map, key), NO_MAP);
                dueUnchanged("remove " + map, () -> x.remove(map, key), NO_MAP);
                dueUnchanged("has " + map, () -> x.has(map, key), NO_MAP);
                dueUnchanged("home " + map, () -> x.home(map, key), NO_MAP);
                dueUnchanged("distance " + map, () -> x.distance(map, key), NO_MAP);
            }
            dueUnchanged("size " + map, () -> x.size(map), NO_MAP);
            dueUnchanged("clear " + map, () -> x.clear(map), NO_MAP);
            dueUnchanged("about " + map, () -> x.about(map, 0), NO_MAP);
            dueUnchanged("bits " + map, () -> x.bits(map, 0), NO_MAP);
            dueUnchanged("next " + map, () -> x.next(map, 0), NO_MAP);
            dueUnchanged("key " + map, () -> x.key(map, 0), NO_MAP);
        }
    }

    private static void mapsAtTheEdge() {
        Check.sentence("MAPS are 0, 1, 2");
        for (int map : new int[] {0, 1, 2}) {
            Arena y = new Arena();
            Check.dueOutcome("put", () -> y.put(map, 3, 4), false);
            Check.dueOutcome("get", () -> y.get(map, 3), 4);
            Check.dueOutcome("has", () -> y.has(map, 3), true);
            Check.dueOutcome("size", () -> y.size(map), 1);
            Check.dueOutcome("about", () -> y.about(map, 1), 8 * map);
            int home = KeyFinder.home(3, map + 1, 8);
            Check.dueOutcome("home", () -> y.home(map, 3), home);
            Check.dueOutcome("distance", () -> y.distance(map, 3), 0);
            Check.dueOutcome("bits", () -> y.bits(map, home), 1);
            Check.dueOutcome("next", () -> y.next(map, 0), home);
            Check.dueOutcome("key", () -> y.key(map, home), 3);
            Check.dueOutcome("remove", () -> y.remove(map, 3), 4);
            Check.dueOutcome("clear", () -> y.clear(map), 0);
        }
    }

    private static void theOneNamedFirst() {
        Check.sentence("Methods throw what their comments name, the one named first when several would do");
        for (int map : NO_MAPS) {
            for (int other : new int[] {-1, 128, Integer.MIN_VALUE, Integer.MAX_VALUE}) {
                dueUnchanged("about", () -> x.about(map, other), NO_MAP);
                dueUnchanged("bits", () -> x.bits(map, other), NO_MAP);
                dueUnchanged("next", () -> x.next(map, other), NO_MAP);
                dueUnchanged("key", () -> x.key(map, other), NO_MAP);
            }
        }
        Arena empty = new Arena();
        for (int place : new int[] {-1, 8}) {
            Check.dueOutcome("key at no place of an empty map", () -> empty.key(0, place), NO_ARGUMENT);
        }
        Arena full = new Arena();
        int[] nine = KeyFinder.inseparable(9);
        for (int map = 0; map < 3; map++) {
            Arenas.putAll(full, map, java.util.Arrays.copyOf(nine, 8));
        }
        Check.dueOutcome("a key that no map takes", () -> full.put(3, nine[8], 1), NO_MAP);
        Check.due("nothing was tried", Arenas.counts(full), "0 0 0");
    }

    private static void noSuchKey() {
        Check.sentence("a call that throws changes nothing");
        for (int map = 0; map < 3; map++) {
            int m = map;
            for (int key : new int[] {5, -1, Integer.MIN_VALUE, Integer.MAX_VALUE}) {
                dueUnchanged("get", () -> x.get(m, key), NO_ELEMENT);
                dueUnchanged("remove", () -> x.remove(m, key), NO_ELEMENT);
                dueUnchanged("distance", () -> x.distance(m, key), NO_ELEMENT);
            }
        }
    }

    private static void noSuchWhat() {
        for (int what : NONE_OF_THREE) {
            dueUnchanged("count", () -> x.count(what), NO_ARGUMENT);
            for (int map = 0; map < 3; map++) {
                int m = map;
                dueUnchanged("about", () -> x.about(m, what), NO_ARGUMENT);
            }
        }
    }

    private static void noSuchPlace() {
        for (int map = 0; map < 3; map++) {
            int m = map;
            int capacity = x.about(map, 0);
            for (int place : new int[] {-1, capacity, 256, Integer.MIN_VALUE, Integer.MAX_VALUE}) {
                dueUnchanged("bits", () -> x.bits(m, place), NO_ARGUMENT);
                dueUnchanged("next", () -> x.next(m, place), NO_ARGUMENT);
                dueUnchanged("key", () -> x.key(m, place), NO_ARGUMENT);
            }
        }
    }

    private static void freePlace() {
        for (int map = 0; map < 3; map++) {
            int free = 0;
            for (int place = 0; place < x.about(map, 0); place++) {
                int m = map;
                int p = place;
                if (x.next(map, place) != place) {
                    dueUnchanged("key", () -> x.key(m, p), NO_ELEMENT);
                    free++;
                }
            }
            Check.due("free places", free, x.about(map, 0) - x.size(map));
        }
    }

    private static void callsThatOnlyTell() {
        Check.sentence("Nothing is promised beyond the answers and state changes described above");
        int held = x.size(1);
        int place = x.next(1, 0);
        dueUnchanged("get", () -> x.get(1, 3), Arenas.valueOf(3) + "");
        dueUnchanged("has", () -> x.has(1, 3), "true");
        dueUnchanged("has not", () -> x.has(1, 5), "false");
        dueUnchanged("size", () -> x.size(1), held + "");
        dueUnchanged("about", () -> x.about(1, 0), "64");
        dueUnchanged("home", () -> x.home(1, 5), KeyFinder.home(5, KeyFinder.seed(1, 64), 64) + "");
        dueUnchanged("distance", () -> x.distance(1, 3) < 8, "true");
        dueUnchanged("bits", () -> x.bits(1, place) < 256, "true");
        dueUnchanged("next", () -> x.next(1, place), place + "");
        dueUnchanged("key", () -> x.has(1, x.key(1, place)), "true");
        dueUnchanged("count", () -> x.count(1), "8");
    }

    private static void refused() {
        Check.sentence("a call that throws changes nothing, unless something else is said");
        Arena full = new Arena();
        int[] nine = KeyFinder.inseparable(9);
        Arenas.putAll(full, 0, java.util.Arrays.copyOf(nine, 8));
        Arenas.putAll(full, 1, 1, 2, 3);
        String contents = Arenas.contents(full);
        for (int time = 1; time <= 3; time++) {
            Check.dueOutcome("put", () -> full.put(0, nine[8], 1), "ArithmeticException");
            Check.due("contents", Arenas.contents(full), contents);
            Check.due("bases", Arenas.bases(full), "0 8 16");
            Check.due("counts", Arenas.counts(full), "0 " + 4 * time + " 0");
        }
    }
}
