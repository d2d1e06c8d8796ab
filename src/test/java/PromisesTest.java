/** Each promise with ordinary inputs, its edges, and wrong inputs. What growing does is in GrowingTest. */
public final class PromisesTest {
    private static final int[] NO_MAPS = {-1, 3, 4, Integer.MIN_VALUE, Integer.MAX_VALUE};
    private static final String NO_MAP = "IndexOutOfBoundsException";
    private static final String NO_ARGUMENT = "IllegalArgumentException";
    private static final String NO_ELEMENT = "NoSuchElementException";
    private static final int SEED_AT_16 = KeyFinder.later(1, 1);

    public static void main(String[] args) {
        newObject();
        put();
        get();
        remove();
        has();
        size();
        clear();
        about();
        home();
        distance();
        bits();
        next();
        key();
        count();
        noSuchMap();
        callsThatThrowChangeNothing();
        Check.end();
    }

    private static void newObject() {
        HopArena x = new HopArena();
        Check.due("1: all", Arenas.all(x),
                "capacity 8 seed 1; capacity 8 seed 2; capacity 8 seed 3; bases 0 8 16; counts 0 0 0");
        for (int map = 0; map < 3; map++) {
            Check.due("1: size", x.size(map), 0);
            Check.due("1: next", x.next(map, 0), HopArena.NONE);
        }
        x.put(0, 1, 1);
        Check.due("1: another object", new HopArena().size(0), 0);
    }

    private static void put() {
        HopArena x = new HopArena();
        int[] keys = {0, -1, 1, Integer.MAX_VALUE, Integer.MIN_VALUE};
        int[] values = {-1, 0, Integer.MIN_VALUE, Integer.MAX_VALUE, 7};
        for (int i = 0; i < keys.length; i++) {
            Check.due("2: new key", x.put(1, keys[i], values[i]), false);
        }
        for (int i = 0; i < keys.length; i++) {
            Check.due("2: value", x.get(1, keys[i]), values[i]);
            Check.due("2: known key", x.put(1, keys[i], values[i] + 1), true);
            Check.due("2: new value", x.get(1, keys[i]), values[i] + 1);
        }
        Check.due("2: size", x.size(1), keys.length);
        Check.due("2: the others", x.size(0) + x.size(2), 0);
        x.remove(1, 0);
        Check.due("2: removed key is new again", x.put(1, 0, 5), false);
    }

    private static void get() {
        HopArena x = new HopArena();
        x.put(0, 5, 50);
        x.put(1, 5, 60);
        Check.due("3: map 0", x.get(0, 5), 50);
        Check.due("3: map 1", x.get(1, 5), 60);
        Check.dueOutcome("3: map 2", () -> x.get(2, 5), NO_ELEMENT);
        Check.dueOutcome("3: other key", () -> x.get(0, 6), NO_ELEMENT);
        Check.dueOutcome("3: key of a free slot", () -> x.get(0, 0), NO_ELEMENT);
    }

    private static void remove() {
        HopArena x = new HopArena();
        int[] same = new KeyFinder().at(1, 8, 6).find(4);
        Arenas.putAll(x, 0, same[0], same[1], same[2]);
        x.put(1, same[0], 9);
        Check.due("4: value", x.remove(0, same[0]), Arenas.valueOf(same[0]));
        Check.dueOutcome("4: a second time", () -> x.remove(0, same[0]), NO_ELEMENT);
        Check.dueOutcome("4: not there", () -> x.remove(0, 5), NO_ELEMENT);
        Check.dueOutcome("4: no value any more", () -> x.get(0, same[0]), NO_ELEMENT);
        Check.dueOutcome("4: place is free", () -> x.key(0, 6), NO_ELEMENT);
        Check.due("4: the other map's", x.get(1, same[0]), 9);
        Check.due("4: size", x.size(0), 2);
        Check.due("4: others stay", x.distance(0, same[1]) * 10 + x.distance(0, same[2]), 12);
        Check.due("4: bits", x.bits(0, 6), 6);
        Arenas.putAll(x, 0, same[3]);
        Check.due("4: place used again", x.key(0, 6), same[3]);
        Check.due("4: the last one", x.remove(0, same[2]), Arenas.valueOf(same[2]));
    }

    private static void has() {
        HopArena x = new HopArena();
        Check.due("5: free slots hold no key 0", x.has(0, 0), false);
        x.put(0, 0, 0);
        Check.due("5: there", x.has(0, 0), true);
        Check.due("5: other map", x.has(1, 0), false);
        x.remove(0, 0);
        Check.due("5: removed", x.has(0, 0), false);
        int[] same = new KeyFinder().at(3, 8, 5).find(9);
        for (int i = 0; i < 8; i++) {
            x.put(2, same[i], i);
            Check.due("5: each of a full map", x.has(2, same[i]), true);
        }
        Check.due("5: not in a full map", x.has(2, same[8]), false);
    }

    private static void size() {
        HopArena x = new HopArena();
        for (int key = 0; key < 40; key++) {
            x.put(2, key, 0);
            x.put(2, key, 1);
            Check.due("6: one more", x.size(2), key + 1);
        }
        x.remove(2, 7);
        Check.due("6: one less", x.size(2), 39);
        Check.due("6: others", x.size(0) + x.size(1), 0);
    }

    private static void clear() {
        HopArena x = new HopArena();
        Check.due("7: nothing to clear", x.clear(0), 0);
        Arenas.growTo(x, 0, 32);
        Arenas.growTo(x, 1, 16);
        String other = Arenas.contents(x, 1);
        int held = x.size(0);
        Check.due("7: bases", Arenas.bases(x), "40 72 16");
        Check.due("7: how many", x.clear(0), held);
        Check.due("7: cleared", Arenas.contents(x, 0), "capacity 8 seed " + KeyFinder.later(1, 2));
        Check.due("7: size", x.size(0), 0);
        Check.due("7: other map", Arenas.contents(x, 1), other);
        Check.due("7: bases stay", Arenas.bases(x), "40 72 16");
        Check.due("7: again", x.clear(0), 0);
        x.clear(1);
        Arenas.growTo(x, 2, 16);
        Check.due("7: behind the 8 slots that were kept", Arenas.bases(x), "40 72 80");
        Check.due("7: nothing left over", x.size(2), 9);
        Arenas.growTo(x, 0, 16);
        Check.due("7: seed goes on", x.about(0, 2), KeyFinder.later(1, 3));
    }

    private static void about() {
        HopArena x = new HopArena();
        Arenas.growTo(x, 2, 16);
        Check.due("8: capacity", x.about(2, 0), 16);
        Check.due("8: base", x.about(2, 1), 24);
        Check.due("8: seed", x.about(2, 2), 3 * 1664525 + 1013904223);
        for (int what : new int[] {-1, 3, Integer.MIN_VALUE, Integer.MAX_VALUE}) {
            Check.dueOutcome("8: no such thing", () -> x.about(2, what), NO_ARGUMENT);
            Check.dueOutcome("8: no such map first", () -> x.about(3, what), NO_MAP);
        }
    }

    private static void home() {
        HopArena x = new HopArena();
        Check.due("9: told by the document's tests", x.home(0, 5), 3);
        int[] keys = {0, 1, -1, 5, 77, 123456789, Integer.MAX_VALUE, Integer.MIN_VALUE};
        for (int key : keys) {
            for (int map = 0; map < 3; map++) {
                Check.due("9: capacity 8", x.home(map, key), KeyFinder.home(key, map + 1, 8));
            }
        }
        Arenas.growTo(x, 1, 32);
        for (int key : keys) {
            Check.due("9: capacity 32", x.home(1, key), KeyFinder.home(key, KeyFinder.later(2, 2), 32));
        }
        Check.due("9: nothing was put", x.has(1, 123456789), false);
    }

    private static void distance() {
        HopArena x = new HopArena();
        int[] same = new KeyFinder().at(1, 8, 5).find(9);
        for (int i = 0; i < 8; i++) {
            Arenas.putAll(x, 0, same[i]);
            Check.due("10: around the end", x.distance(0, same[i]), i);
        }
        Check.due("10: place", x.key(0, 2), same[5]);
        Check.dueOutcome("10: not there", () -> x.distance(0, same[8]), NO_ELEMENT);
        Check.dueOutcome("10: not in that map", () -> x.distance(1, same[0]), NO_ELEMENT);
    }

    private static void bits() {
        HopArena x = Arenas.withSixteen();
        int[] at14 = new KeyFinder().at(SEED_AT_16, 16, 14).find(3);
        int at15 = new KeyFinder().at(SEED_AT_16, 16, 15).findOne();
        Arenas.putAll(x, 0, at14[0], at15, at14[1], at14[2]);
        Check.due("11: around the end", x.bits(0, 14), 1 + 4 + 8);
        Check.due("11: only keys of that home", x.bits(0, 15), 1);
        Check.due("11: a taken place is nobody's home", x.bits(0, 0), 0);
        x.remove(0, at14[1]);
        Check.due("11: removed", x.bits(0, 14), 1 + 8);
        for (int place : new int[] {-1, 16, Integer.MIN_VALUE, Integer.MAX_VALUE}) {
            Check.dueOutcome("11: no such place", () -> x.bits(0, place), NO_ARGUMENT);
            Check.dueOutcome("11: no such map first", () -> x.bits(3, place), NO_MAP);
        }
        Check.dueOutcome("11: capacities differ", () -> x.bits(1, 8), NO_ARGUMENT);
        HopArena full = new HopArena();
        Arenas.putAll(full, 2, new KeyFinder().at(3, 8, 4).find(8));
        Check.due("11: all of a full map", full.bits(2, 4), 255);
        Check.due("11: none of a full map", full.bits(2, 5), 0);
    }

    private static void next() {
        HopArena x = new HopArena();
        Arenas.putAll(x, 1, new KeyFinder().at(2, 8, 2).findOne(), new KeyFinder().at(2, 8, 5).findOne());
        int[] due = {2, 2, 2, 5, 5, 5, HopArena.NONE, HopArena.NONE};
        for (int place = 0; place < 8; place++) {
            Check.due("12: from " + place, x.next(1, place), due[place]);
            Check.due("12: other map", x.next(0, place), HopArena.NONE);
        }
        Arenas.putAll(x, 1, new KeyFinder().at(2, 8, 7).findOne());
        Check.due("12: last place", x.next(1, 7), 7);
        for (int place : new int[] {-1, 8, Integer.MIN_VALUE, Integer.MAX_VALUE}) {
            Check.dueOutcome("12: no such place", () -> x.next(1, place), NO_ARGUMENT);
            Check.dueOutcome("12: no such map first", () -> x.next(3, place), NO_MAP);
        }
    }

    private static void key() {
        HopArena x = new HopArena();
        int at0 = new KeyFinder().at(3, 8, 0).findOne();
        int at7 = new KeyFinder().at(3, 8, 7).findOne();
        Arenas.putAll(x, 2, at0, at7);
        Check.due("13: first place", x.key(2, 0), at0);
        Check.due("13: last place", x.key(2, 7), at7);
        Check.dueOutcome("13: free", () -> x.key(2, 3), NO_ELEMENT);
        Check.dueOutcome("13: free in the other map", () -> x.key(1, 0), NO_ELEMENT);
        x.remove(2, at0);
        Check.dueOutcome("13: free again", () -> x.key(2, 0), NO_ELEMENT);
        for (int place : new int[] {-1, 8, Integer.MIN_VALUE, Integer.MAX_VALUE}) {
            Check.dueOutcome("13: no such place", () -> x.key(2, place), NO_ARGUMENT);
            Check.dueOutcome("13: no such map first", () -> x.key(-1, place), NO_MAP);
        }
    }

    private static void count() {
        HopArena x = new HopArena();
        Arenas.growTo(x, 0, 32);
        Check.due("14: new parts", x.count(1), 2);
        x.clear(0);
        Check.due("14: clearing keeps counts", x.count(1), 2);
        for (int what : new int[] {-1, 3, Integer.MIN_VALUE, Integer.MAX_VALUE}) {
            Check.dueOutcome("14: no such count", () -> x.count(what), NO_ARGUMENT);
        }
    }

    private static void noSuchMap() {
        HopArena x = new HopArena();
        for (int map : NO_MAPS) {
            Check.dueOutcome("put", () -> x.put(map, 1, 1), NO_MAP);
            Check.dueOutcome("get", () -> x.get(map, 1), NO_MAP);
            Check.dueOutcome("remove", () -> x.remove(map, 1), NO_MAP);
            Check.dueOutcome("has", () -> x.has(map, 1), NO_MAP);
            Check.dueOutcome("size", () -> x.size(map), NO_MAP);
            Check.dueOutcome("clear", () -> x.clear(map), NO_MAP);
            Check.dueOutcome("about", () -> x.about(map, 0), NO_MAP);
            Check.dueOutcome("home", () -> x.home(map, 1), NO_MAP);
            Check.dueOutcome("distance", () -> x.distance(map, 1), NO_MAP);
            Check.dueOutcome("bits", () -> x.bits(map, 0), NO_MAP);
            Check.dueOutcome("next", () -> x.next(map, 0), NO_MAP);
            Check.dueOutcome("key", () -> x.key(map, 0), NO_MAP);
        }
    }

    private static void callsThatThrowChangeNothing() {
        HopArena x = new HopArena();
        Arenas.growTo(x, 1, 16);
        Arenas.putAll(x, 0, 3, 4, 5);
        String before = Arenas.all(x);
        Check.dueOutcome("put", () -> x.put(3, 3, 9), NO_MAP);
        Check.dueOutcome("get", () -> x.get(0, 6), NO_ELEMENT);
        Check.dueOutcome("remove", () -> x.remove(0, 6), NO_ELEMENT);
        Check.dueOutcome("remove", () -> x.remove(-1, 3), NO_MAP);
        Check.dueOutcome("clear", () -> x.clear(3), NO_MAP);
        Check.dueOutcome("about", () -> x.about(0, 3), NO_ARGUMENT);
        Check.dueOutcome("distance", () -> x.distance(2, 3), NO_ELEMENT);
        Check.dueOutcome("bits", () -> x.bits(0, 8), NO_ARGUMENT);
        Check.dueOutcome("next", () -> x.next(0, 8), NO_ARGUMENT);
        Check.dueOutcome("key", () -> x.key(0, 8), NO_ARGUMENT);
        Check.dueOutcome("count", () -> x.count(3), NO_ARGUMENT);
        Check.due("all as before", Arenas.all(x), before);
    }
}
