import java.util.Arrays;

/** Each promise by its sentences: ordinary inputs, empty and full maps, edges, and wrong inputs. */
public final class PromisesTest {
    private static final String NO_ARGUMENT = "IllegalArgumentException";
    private static final String NO_ELEMENT = "NoSuchElementException";
    private static final int[] ODD_NUMBERS = {0, -1, 1, Integer.MAX_VALUE, Integer.MIN_VALUE};
    private static final int[] CAPACITIES = {8, 16, 32, 64, 128};

    public static void main(String[] args) {
        newObject();
        objectsAreApart();
        putTellsWhetherItWasThere();
        putKnownKeyStaysWhereItIs();
        putNewKeyThatMakesTheMapGrow();
        get();
        getFromEmptyAndFullMaps();
        remove();
        removeEachOfAFullMap();
        removeKeepsTheCapacity();
        has();
        hasInFullMaps();
        sizeOfEmptyAndFullMaps();
        size();
        for (int capacity : CAPACITIES) {
            clearFrom(capacity);
            clearFull(capacity);
            clearKeepsFirstEightSlots(capacity);
        }
        clearLeavesNothing();
        about();
        home();
        distance();
        bitsOfEmptyAndFullMaps();
        next();
        nextInEmptyAndFullMaps();
        nextDoesNotGoAround();
        key();
        keyAtEachPlace();
        count();
        Check.end();
    }

    private static void newObject() {
        Check.sentence("HopArena(): As said at first.");
        Arena x = new Arena();
        Check.due("all", Arenas.all(x),
                "capacity 8 seed 1; capacity 8 seed 2; capacity 8 seed 3; bases 0 8 16; counts 0 0 0");
        for (int map = 0; map < 3; map++) {
            Check.due("size", x.size(map), 0);
            Check.due("next", x.next(map, 0), HopArena.NONE);
        }
    }

    private static void objectsAreApart() {
        HopArena one = new HopArena();
        HopArena other = new HopArena();
        for (int key = 0; key < 20; key++) {
            one.put(0, key, key);
        }
        Check.due("another object", other.size(0) + " " + other.about(0, 0) + " " + other.count(1), "0 8 0");
        Check.due("a later object", new HopArena().has(0, 3), false);
    }

    private static void putTellsWhetherItWasThere() {
        Check.sentence("A key has a value from now on: whether it had one before.");
        Arena x = new Arena();
        int[] values = {-1, 0, Integer.MIN_VALUE, Integer.MAX_VALUE, 7};
        for (int i = 0; i < ODD_NUMBERS.length; i++) {
            Check.due("new key", x.put(1, ODD_NUMBERS[i], values[i]), false);
        }
        for (int i = 0; i < ODD_NUMBERS.length; i++) {
            int key = ODD_NUMBERS[i];
            Check.due("value", x.get(1, key), values[i]);
            Check.due("known key, same value", x.put(1, key, values[i]), true);
            Check.due("same value", x.get(1, key), values[i]);
            Check.due("known key", x.put(1, key, values[i] + 1), true);
            Check.due("new value", x.get(1, key), values[i] + 1);
        }
        Check.due("size", x.size(1), ODD_NUMBERS.length);
        Check.due("the others", x.size(0) + x.size(2), 0);
        Check.due("new in another map", x.put(2, 0, 5), false);
        x.remove(1, 0);
        Check.due("removed key is new again", x.put(1, 0, 5), false);
        x.clear(1);
        Check.due("cleared key is new again", x.put(1, -1, 5), false);
    }

    private static void putKnownKeyStaysWhereItIs() {
        Arena x = new Arena();
        int[] same = new Keys(1, 8).at(6, 8);
        Arenas.putAll(x, 0, same);
        for (int i = 0; i < 7; i++) {
            x.remove(0, same[i]);
        }
        Check.due("known key 7 behind its home, which is free", x.put(0, same[7], 9), true);
        Check.due("its distance", x.distance(0, same[7]), 7);
        Check.due("its value", x.get(0, same[7]), 9);
        Check.due("size", x.size(0), 1);
    }

    private static void putNewKeyThatMakesTheMapGrow() {
        Check.sentence("If it is new, it is inserted; if that fails, the map grows, and the new key is inserted");
        Arena x = new Arena();
        Keys keys = new Keys(2, 8);
        for (int home = 0; home < 8; home++) {
            Arenas.putAll(x, 1, keys.at(home));
        }
        Check.due("8 keys", x.about(1, 0), 8);
        int added = keys.at(4);
        Check.due("the ninth one is new", x.put(1, added, -5), false);
        Check.due("9 keys", x.size(1) + " of " + x.about(1, 0), "9 of 16");
        Check.due("value of the ninth", x.get(1, added), -5);
        Check.due("it is known then", x.put(1, added, -6), true);
        Check.due("other maps", Arenas.contents(x, 0) + "; " + Arenas.contents(x, 2),
                "capacity 8 seed 1; capacity 8 seed 3");
    }

    private static void get() {
        Check.sentence("The value of a key. NoSuchElementException: it is not there.");
        Arena x = new Arena();
        x.put(0, 5, 50);
        x.put(1, 5, 60);
        Check.due("map 0", x.get(0, 5), 50);
        Check.due("map 1", x.get(1, 5), 60);
        Check.dueOutcome("map 2", () -> x.get(2, 5), NO_ELEMENT);
        Check.dueOutcome("just below", () -> x.get(0, 4), NO_ELEMENT);
        Check.dueOutcome("just above", () -> x.get(0, 6), NO_ELEMENT);
        for (int value : ODD_NUMBERS) {
            x.put(0, 5, value);
            Check.due("value", x.get(0, 5), value);
        }
        x.remove(0, 5);
        Check.dueOutcome("removed", () -> x.get(0, 5), NO_ELEMENT);
        x.clear(1);
        Check.dueOutcome("cleared", () -> x.get(1, 5), NO_ELEMENT);
    }

    private static void getFromEmptyAndFullMaps() {
        Arena x = new Arena();
        for (int key : ODD_NUMBERS) {
            Check.dueOutcome("empty map", () -> x.get(0, key), NO_ELEMENT);
        }
        int[] same = new Keys(1, 8).at(3, 9);
        Arenas.putAll(x, 0, Arrays.copyOf(same, 8));
        for (int i = 0; i < 8; i++) {
            Check.due("full map, distance " + i, x.get(0, same[i]), Arenas.valueOf(same[i]));
        }
        Check.dueOutcome("not in a full map", () -> x.get(0, same[8]), NO_ELEMENT);
    }

    private static void remove() {
        Check.sentence("A key is not there any more: its value. NoSuchElementException: it is not there.");
        Arena x = new Arena();
        int[] same = new Keys(1, 8).at(6, 4);
        Check.dueOutcome("from an empty map", () -> x.remove(0, same[0]), NO_ELEMENT);
        Arenas.putAll(x, 0, same[0], same[1], same[2]);
        x.put(1, same[0], 9);
        Check.due("value", x.remove(0, same[0]), Arenas.valueOf(same[0]));
        Check.dueOutcome("a second time", () -> x.remove(0, same[0]), NO_ELEMENT);
        Check.dueOutcome("not there", () -> x.remove(0, same[3]), NO_ELEMENT);
        Check.dueOutcome("no value any more", () -> x.get(0, same[0]), NO_ELEMENT);
        Check.dueOutcome("place is free", () -> x.key(0, 6), NO_ELEMENT);
        Check.due("the other map's", x.get(1, same[0]), 9);
        Check.due("size", x.size(0), 2);
        Check.due("others stay", x.distance(0, same[1]) + " " + x.distance(0, same[2]), "1 2");
        Check.due("bits", x.bits(0, 6), 6);
        Arenas.putAll(x, 0, same[3]);
        Check.due("place used again", x.key(0, 6), same[3]);
        for (int value : ODD_NUMBERS) {
            x.put(2, 7, value);
            Check.due("value", x.remove(2, 7), value);
        }
    }

    private static void removeEachOfAFullMap() {
        int[] same = new Keys(3, 8).at(5, 9);
        for (int i = 0; i < 8; i++) {
            Arena x = new Arena();
            Arenas.putAll(x, 2, Arrays.copyOf(same, 8));
            Check.dueOutcome("not in a full map", () -> x.remove(2, same[8]), NO_ELEMENT);
            Check.due("one of a full map", x.remove(2, same[i]), Arenas.valueOf(same[i]));
            Check.due("size", x.size(2), 7);
            Check.due("bits", x.bits(2, 5), 255 - (1 << i));
            for (int j = 0; j < 8; j++) {
                Check.due("the others", x.has(2, same[j]), j != i);
            }
        }
    }

    private static void removeKeepsTheCapacity() {
        Arena x = new Arena();
        Arenas.growTo(x, 0, 32);
        int held = x.size(0);
        for (int key = 0; key < held; key++) {
            Check.due("value", x.remove(0, key), Arenas.valueOf(key));
        }
        Check.due("an empty map", Arenas.contents(x, 0), "capacity 32 seed " + KeyFinder.seed(0, 32));
        Check.due("its base", Arenas.bases(x), "40 8 16");
        Check.dueOutcome("nothing left", () -> x.remove(0, 0), NO_ELEMENT);
    }

    private static void has() {
        Check.sentence("Whether a key is there.");
        Arena x = new Arena();
        for (int key : ODD_NUMBERS) {
            Check.due("in an empty map", x.has(0, key), false);
            x.put(0, key, 0);
            Check.due("there", x.has(0, key), true);
            Check.due("other map", x.has(1, key), false);
            x.remove(0, key);
            Check.due("removed", x.has(0, key), false);
        }
        x.put(0, 5, 5);
        x.clear(0);
        Check.due("cleared", x.has(0, 5), false);
    }

    private static void hasInFullMaps() {
        Arena x = new Arena();
        int[] same = new Keys(3, 8).at(5, 9);
        for (int i = 0; i < 8; i++) {
            x.put(2, same[i], i);
            Check.due("each of a full map", x.has(2, same[i]), true);
            Check.due("the next one", x.has(2, same[i + 1]), false);
        }
        for (int i = 0; i < 7; i++) {
            x.remove(2, same[i]);
            Check.due("one behind places that are free", x.has(2, same[7]), true);
        }
    }

    private static void sizeOfEmptyAndFullMaps() {
        Check.sentence("How many keys there are.");
        for (int capacity : CAPACITIES) {
            Arena x = Arenas.empty(2, capacity);
            Keys keys = new Keys(KeyFinder.seed(2, capacity), capacity);
            Check.due("empty", x.size(2), 0);
            for (int home = 0; home < capacity; home++) {
                Arenas.putAll(x, 2, keys.at(home));
                Check.due("one more", x.size(2), home + 1);
            }
            Check.due("full", x.size(2), x.about(2, 0));
            x.remove(2, x.key(2, capacity - 1));
            Check.due("one less", x.size(2), capacity - 1);
            Check.due("others", x.size(0) + x.size(1), 0);
        }
    }

    private static void size() {
        Arena x = new Arena();
        for (int key = 0; key < 40; key++) {
            x.put(2, key, 0);
            x.put(2, key, 1);
            Check.due("one more, also when it grew", x.size(2), key + 1);
        }
        x.remove(2, 7);
        Check.dueOutcome("again", () -> x.remove(2, 7), NO_ELEMENT);
        Check.due("one less", x.size(2), 39);
        x.clear(2);
        Check.due("cleared", x.size(2), 0);
        int[] nine = KeyFinder.inseparable(9);
        Arenas.putAll(x, 1, Arrays.copyOf(nine, 8));
        Check.dueOutcome("refused", () -> x.put(1, nine[8], 1), "ArithmeticException");
        Check.due("refused: size", x.size(1), 8);
    }

    private static void clearFrom(int capacity) {
        Check.sentence("All places of a map are free, its capacity is 8 (its part is the first 8 slots of the one that "
                + "it had); the seed stays. How many keys there were.");
        for (int map = 0; map < 3; map++) {
            Arena x = new Arena();
            Arenas.growTo(x, map, capacity);
            Arenas.putAll(x, (map + 1) % 3, 1, 2, 3);
            String others = Arenas.contents(x, (map + 1) % 3) + Arenas.contents(x, (map + 2) % 3);
            String bases = Arenas.bases(x);
            String counts = Arenas.counts(x);
            int seed = x.about(map, 2);
            int held = x.size(map);
            Check.due("how many", x.clear(map), held);
            Check.due("contents", Arenas.contents(x, map), "capacity 8 seed " + seed);
            Check.due("size", x.size(map), 0);
            for (int place = 0; place < 8; place++) {
                Check.due("bits", x.bits(map, place), 0);
            }
            Check.due("bases", Arenas.bases(x), bases);
            Check.due("counts", Arenas.counts(x), counts);
            Check.due("others", Arenas.contents(x, (map + 1) % 3) + Arenas.contents(x, (map + 2) % 3), others);
            Check.due("a second time", x.clear(map), 0);
            Check.due("home", x.home(map, 77), KeyFinder.home(77, seed, 8));
            Arenas.growTo(x, map, 16);
            Check.due("seed goes on", x.about(map, 2), KeyFinder.later(seed, 1));
        }
    }

    private static void clearFull(int capacity) {
        Arena x = Arenas.empty(0, capacity);
        Keys keys = new Keys(KeyFinder.seed(0, capacity), capacity);
        for (int home = 0; home < capacity; home++) {
            Arenas.putAll(x, 0, keys.at(home));
        }
        Check.due("how many of a full map", x.clear(0), capacity);
        Check.due("next", x.next(0, 0), HopArena.NONE);
        for (int place : new int[] {-1, 8}) {
            Check.dueOutcome("place " + place, () -> x.key(0, place), NO_ARGUMENT);
        }
        Check.dueOutcome("place 7", () -> x.key(0, 7), NO_ELEMENT);
        Check.due("an empty map", x.clear(0), 0);
    }

    private static void clearKeepsFirstEightSlots(int capacity) {
        Arena x = new Arena();
        Arenas.growTo(x, 2, capacity);
        int base = x.about(2, 1);
        x.clear(2);
        Arenas.growTo(x, 0, 16);
        Check.due("a new part of 16 lies behind 8 slots", x.about(0, 1), base + 8);
        Check.due("nothing in it but its keys", x.size(0), 9);
        Arenas.growTo(x, 2, 16);
        Check.due("the next one behind that", x.about(2, 1), base + 24);
    }

    private static void clearLeavesNothing() {
        Arena x = new Arena();
        Arenas.growTo(x, 0, 32);
        Arenas.growTo(x, 1, 16);
        Check.due("bases", Arenas.bases(x), "40 72 16");
        x.clear(0);
        x.clear(1);
        Check.due("bases stay", Arenas.bases(x), "40 72 16");
        Arenas.growTo(x, 2, 16);
        Check.due("over slots that were taken", Arenas.bases(x), "40 72 80");
        Check.due("nothing left over", x.size(2), 9);
        Arenas.growTo(x, 0, 16);
        Check.due("not its own keys either", x.size(0), 9);
    }

    private static void about() {
        Check.sentence("Of a map: 0 capacity, 1 base, 2 seed. IllegalArgumentException: what is none of these.");
        Arena x = new Arena();
        Arenas.growTo(x, 2, 16);
        Check.due("capacity", x.about(2, 0), 16);
        Check.due("base", x.about(2, 1), 24);
        Check.due("seed", x.about(2, 2), 1018897798);
        for (int map = 0; map < 3; map++) {
            int m = map;
            for (int what : new int[] {-1, 3, 4, Integer.MIN_VALUE, Integer.MAX_VALUE}) {
                Check.dueOutcome("what " + what, () -> x.about(m, what), NO_ARGUMENT);
            }
        }
    }

    private static void home() {
        Check.sentence("The home of a key, also of one that is not there.");
        Arena x = new Arena();
        Check.due("not there", x.home(0, 5), 3);
        x.put(0, 5, 1);
        Check.due("there", x.home(0, 5), 3);
        x.remove(0, 5);
        Check.due("not there any more", x.home(0, 5), 3);
        Check.due("nothing was put", x.size(0), 0);
        Arenas.putAll(x, 0, KeyFinder.inseparable(8));
        for (int key : KeyFinder.inseparable(9)) {
            Check.due("one home, wherever they are", x.home(0, key), KeyFinder.home(1000, 1, 8));
        }
        x.clear(0);
        Arenas.growTo(x, 0, 64);
        Check.due("in the larger map", x.home(0, 5), KeyFinder.home(5, KeyFinder.seed(0, 64), 64));
        x.clear(0);
        Check.due("in 8 places with a later seed", x.home(0, 5), KeyFinder.home(5, KeyFinder.seed(0, 64), 8));
    }

    private static void distance() {
        Check.sentence("The distance of a key. NoSuchElementException: it is not there.");
        Arena x = new Arena();
        int[] same = new Keys(1, 8).at(5, 9);
        Check.dueOutcome("in an empty map", () -> x.distance(0, same[0]), NO_ELEMENT);
        for (int i = 0; i < 8; i++) {
            int next = same[i + 1];
            Arenas.putAll(x, 0, same[i]);
            Check.due("around the end", x.distance(0, same[i]), i);
            Check.dueOutcome("not there yet", () -> x.distance(0, next), NO_ELEMENT);
        }
        Check.dueOutcome("not in that map", () -> x.distance(1, same[0]), NO_ELEMENT);
        x.remove(0, same[0]);
        Check.dueOutcome("not there any more", () -> x.distance(0, same[0]), NO_ELEMENT);
        Check.due("still 7", x.distance(0, same[7]), 7);
    }

    private static void bitsOfEmptyAndFullMaps() {
        Check.sentence("The bits of a place. IllegalArgumentException: there is no such place.");
        Arena x = new Arena();
        for (int place = 0; place < 8; place++) {
            Check.due("empty map", x.bits(2, place), 0);
        }
        Keys keys = new Keys(3, 8);
        int[] same = keys.at(4, 8);
        int row = 0;
        for (int i = 0; i < 8; i++) {
            Arenas.putAll(x, 2, same[i]);
            row += 1 << i;
            Check.due("one more bit", x.bits(2, 4), row);
        }
        for (int place = 0; place < 8; place++) {
            Check.due("full map, place " + place, x.bits(2, place), place == 4 ? 255 : 0);
        }
        Arenas.growTo(x, 1, 16);
        Check.dueOutcome("last place of 16", () -> x.bits(1, 15) >= 0, true);
        Check.dueOutcome("behind it", () -> x.bits(1, 16), NO_ARGUMENT);
        Check.dueOutcome("behind the last place of 8", () -> x.bits(2, 8), NO_ARGUMENT);
        Check.dueOutcome("before the first place", () -> x.bits(2, -1), NO_ARGUMENT);
    }

    private static void next() {
        Check.sentence("The least place from one on that is not free; NONE when there is none. "
                + "IllegalArgumentException: there is no such place.");
        Arena x = new Arena();
        Keys keys = new Keys(2, 8);
        Arenas.putAll(x, 1, keys.at(2), keys.at(5));
        int[] due = {2, 2, 2, 5, 5, 5, HopArena.NONE, HopArena.NONE};
        for (int place = 0; place < 8; place++) {
            Check.due("from " + place, x.next(1, place), due[place]);
            Check.due("other map", x.next(0, place), HopArena.NONE);
        }
        Arenas.putAll(x, 1, keys.at(0), keys.at(7));
        Check.due("first place", x.next(1, 0), 0);
        Check.due("behind it", x.next(1, 1), 2);
        Check.due("before the last place", x.next(1, 6), 7);
        Check.due("last place", x.next(1, 7), 7);
        for (int place : new int[] {-1, 8, Integer.MIN_VALUE, Integer.MAX_VALUE}) {
            Check.dueOutcome("no such place", () -> x.next(1, place), NO_ARGUMENT);
        }
    }

    private static void nextInEmptyAndFullMaps() {
        for (int capacity : CAPACITIES) {
            Arena x = Arenas.empty(1, capacity);
            Keys keys = new Keys(KeyFinder.seed(1, capacity), capacity);
            for (int place = 0; place < capacity; place++) {
                Check.due("empty map", x.next(1, place), HopArena.NONE);
            }
            for (int home = 0; home < capacity; home++) {
                Arenas.putAll(x, 1, keys.at(home));
            }
            for (int place = 0; place < capacity; place++) {
                Check.due("full map", x.next(1, place), place);
            }
        }
    }

    private static void nextDoesNotGoAround() {
        for (int capacity : CAPACITIES) {
            Arena x = Arenas.empty(0, capacity);
            Keys keys = new Keys(KeyFinder.seed(0, capacity), capacity);
            Arenas.putAll(x, 0, keys.at(0));
            Check.due("at the key", x.next(0, 0), 0);
            for (int place = 1; place < capacity; place++) {
                Check.due("behind the key", x.next(0, place), HopArena.NONE);
            }
            // The slot behind the part may be another map's, and taken.
            Arenas.putAll(x, 1, new Keys(2, 8).at(0));
            Arenas.putAll(x, 2, new Keys(3, 8).at(0));
            Check.due("at the last place", x.next(0, capacity - 1), HopArena.NONE);
        }
    }

    private static void key() {
        Check.sentence("The key at a place. IllegalArgumentException: there is no such place; "
                + "NoSuchElementException: it is free.");
        Arena x = new Arena();
        Keys keys = new Keys(3, 8);
        int at0 = keys.at(0);
        int at7 = keys.at(7);
        Arenas.putAll(x, 2, at0, at7);
        Check.due("first place", x.key(2, 0), at0);
        Check.due("last place", x.key(2, 7), at7);
        for (int place = 1; place < 7; place++) {
            int p = place;
            Check.dueOutcome("free", () -> x.key(2, p), NO_ELEMENT);
        }
        Check.dueOutcome("free in the other map", () -> x.key(1, 0), NO_ELEMENT);
        x.remove(2, at0);
        Check.dueOutcome("free again", () -> x.key(2, 0), NO_ELEMENT);
        for (int place : new int[] {-1, 8, Integer.MIN_VALUE, Integer.MAX_VALUE}) {
            Check.dueOutcome("no such place", () -> x.key(2, place), NO_ARGUMENT);
            Check.dueOutcome("no such place of an empty map", () -> x.key(1, place), NO_ARGUMENT);
        }
    }

    private static void keyAtEachPlace() {
        for (int capacity : CAPACITIES) {
            Arena x = Arenas.empty(1, capacity);
            Keys keys = new Keys(KeyFinder.seed(1, capacity), capacity);
            int[] due = new int[capacity];
            for (int home = capacity - 1; home >= 0; home--) {
                due[home] = keys.at(home);
                Arenas.putAll(x, 1, due[home]);
            }
            Check.due("full map", Arenas.contents(x, 1), Arenas.contentsOf(KeyFinder.seed(1, capacity), due));
            Check.dueOutcome("behind it", () -> x.key(1, capacity), NO_ARGUMENT);
        }
    }

    private static void count() {
        Check.sentence("A count. IllegalArgumentException: what is not 0 .. 2.");
        Arena x = new Arena();
        Check.due("at first", Arenas.counts(x), "0 0 0");
        Arenas.growTo(x, 0, 32);
        Check.due("new parts", Arenas.counts(x), "0 2 0");
        for (int what : new int[] {-1, 3, 4, Integer.MIN_VALUE, Integer.MAX_VALUE}) {
            Check.dueOutcome("what " + what, () -> x.count(what), NO_ARGUMENT);
        }
    }
}
