import java.util.Random;

/** What "Terms" says of the arena, maps, places, homes, distances and bits: a test for each sentence. */
public final class PlacesTest {
    private static final String NO_MAP = "IndexOutOfBoundsException";
    private static final String NO_PLACE = "IllegalArgumentException";
    private static final String NO_ELEMENT = "NoSuchElementException";
    private static final int[] CAPACITIES = {8, 16, 32, 64, 128};

    public static void main(String[] args) {
        slotsEndAt255();
        mapsAreThree();
        capacitiesAreFive();
        partsHaveNoSlotInCommon();
        neighboursKeepTheirSlots();
        for (int capacity : CAPACITIES) {
            placesEndBelowCapacity(capacity);
            lastPlaceIsNextToPlaceZero(capacity);
            bitsOfPlacesNearTheEnd(capacity);
        }
        placeHoldsKeyWithValueOrIsFree();
        atFirst();
        homesInNumbers();
        homesByTheFormula();
        distancesEndAtSeven();
        eachBitAlone();
        bitsAreOfKeysAtHomeThere();
        answersUpToTheLastCall();
        Check.end();
    }

    private static void slotsEndAt255() {
        Check.sentence("THE ARENA has 256 SLOTS 0 .. 255");
        partEndsAt(new int[] {0, 0, 0, 1, 0, 1}, 1, 248, 1, 1);
        partEndsAt(new int[] {0, 0, 0, 0, 1, 1}, 1, 256, 1, 1);
        // The next 8 slots would be 256 .. 263: these are pushed together instead.
        partEndsAt(new int[] {0, 0, 0, 0}, 0, 208, 0, 1);
    }

    /** Maps double in this order; the last one to do so ends there, and the last doubling pushed so often. */
    private static void partEndsAt(int[] doubling, int map, int end, int pushesBefore, int pushes) {
        Arena x = new Arena();
        for (int i = 0; i < doubling.length - 1; i++) {
            Arenas.growTo(x, doubling[i], 2 * x.about(doubling[i], 0));
        }
        Check.due("pushes before", x.count(2), pushesBefore);
        Arenas.growTo(x, map, 2 * x.about(map, 0));
        Check.due("end", x.about(map, 1) + x.about(map, 0), end);
        Check.due("pushes", x.count(2), pushes);
        int last = x.about(map, 0) - 1;
        int key = new KeyFinder().at(x.about(map, 2), last + 1, last).findOne();
        Arenas.removeAll(x, map);
        Arenas.putAll(x, map, key);
        Check.due("key at the last place", x.key(map, last), key);
    }

    private static void mapsAreThree() {
        Check.sentence("MAPS are 0, 1, 2");
        Arena x = new Arena();
        for (int map : new int[] {-1, 3}) {
            Check.dueOutcome("put into map " + map, () -> x.put(map, 5, 5), NO_MAP);
        }
        for (int map = 0; map < 3; map++) {
            Arenas.putAll(x, map, 5);
            x.put(map, 5, 50 + map);
        }
        for (int map = 0; map < 3; map++) {
            Check.due("value in map " + map, x.get(map, 5), 50 + map);
        }
        x.remove(1, 5);
        Check.due("removed from one", x.has(0, 5) + " " + x.has(1, 5) + " " + x.has(2, 5), "true false true");
    }

    private static void capacitiesAreFive() {
        Check.sentence("a map has a CAPACITY (8, 16, 32, 64 or 128)");
        for (int map = 0; map < 3; map++) {
            int m = map;
            Arena x = new Arena();
            StringBuilder seen = new StringBuilder("8");
            int refused = 0;
            for (int key = 1000; key < 1300; key++) {
                int k = key;
                int before = x.about(map, 0);
                refused += Check.outcome(() -> x.put(m, k, 1)).equals("ArithmeticException") ? 1 : 0;
                if (x.about(map, 0) != before) {
                    seen.append(' ').append(x.about(map, 0));
                }
            }
            Check.due("capacities of map " + map, seen.toString(), "8 16 32 64 128");
            Check.due("it came to more keys than fit", refused > 100, true);
        }
    }

    private static void partsHaveNoSlotInCommon() {
        Check.sentence("no two parts having a slot in common");
        int pushes = 0;
        for (int number = 0; number < 20; number++) {
            Random random = new Random(number);
            Arena x = new Arena();
            for (int change = 0; change < 400; change++) {
                int map = random.nextInt(3);
                String others = change % 20 == 0 ? contentsBut(x, map) : "";
                if (random.nextInt(40) == 0) {
                    x.clear(map);
                } else {
                    int key = random.nextInt(200);
                    Check.outcome(() -> x.put(map, key, ~key));
                }
                Check.due("parts lie apart", partsLieApart(x), true);
                if (change % 20 == 0) {
                    Check.due("the other maps", contentsBut(x, map), others);
                }
            }
            pushes += x.count(2);
        }
        Check.due("pushes happened", pushes > 20, true);
    }

    private static String contentsBut(Arena x, int map) {
        return Arenas.contents(x, (map + 1) % 3) + "; " + Arenas.contents(x, (map + 2) % 3);
    }

    private static boolean partsLieApart(Arena x) {
        boolean[] taken = new boolean[256];
        for (int map = 0; map < 3; map++) {
            int base = x.about(map, 1);
            int end = base + x.about(map, 0);
            if (base < 0 || end > 256) {
                return false;
            }
            for (int slot = base; slot < end; slot++) {
                if (taken[slot]) {
                    return false;
                }
                taken[slot] = true;
            }
        }
        return true;
    }

    private static void neighboursKeepTheirSlots() {
        Check.sentence("its PART of the arena, the slots base .. base + capacity - 1");
        Arena x = new Arena();
        int[][] keys = new int[3][];
        for (int map = 0; map < 3; map++) {
            // From the last place on, around to all others.
            keys[map] = new Keys(map + 1, 8).at(7, 8);
            Arenas.putAll(x, map, keys[map]);
        }
        for (int map = 0; map < 3; map++) {
            int[] k = keys[map];
            Check.due("map " + map, Arenas.contents(x, map),
                    Arenas.contentsOf(map + 1, k[1], k[2], k[3], k[4], k[5], k[6], k[7], k[0]));
        }
        Check.due("in the slots of at first", Arenas.bases(x), "0 8 16");
        x.clear(1);
        Check.due("neighbours of a cleared map", x.size(0) + " " + x.size(1) + " " + x.size(2), "8 0 8");
    }

    private static void placesEndBelowCapacity(int capacity) {
        Check.sentence("the PLACES of a map are 0 .. capacity - 1");
        for (int map = 0; map < 3; map++) {
            int m = map;
            Arena x = Arenas.empty(map, capacity);
            Keys keys = new Keys(KeyFinder.seed(map, capacity), capacity);
            int first = keys.at(0);
            int last = keys.at(capacity - 1);
            Arenas.putAll(x, map, first, last);
            Check.due("key at 0", x.key(map, 0), first);
            Check.due("key at the last place", x.key(map, capacity - 1), last);
            Check.due("bits", x.bits(map, 0) + " " + x.bits(map, capacity - 1), "1 1");
            Check.due("next", x.next(map, 0) + " " + x.next(map, 1) + " " + x.next(map, capacity - 1),
                    "0 " + (capacity - 1) + " " + (capacity - 1));
            for (int place : new int[] {-1, capacity, capacity + 1, Integer.MIN_VALUE, Integer.MAX_VALUE}) {
                Check.dueOutcome("key at " + place, () -> x.key(m, place), NO_PLACE);
                Check.dueOutcome("bits at " + place, () -> x.bits(m, place), NO_PLACE);
                Check.dueOutcome("next at " + place, () -> x.next(m, place), NO_PLACE);
            }
        }
    }

    private static void lastPlaceIsNextToPlaceZero(int capacity) {
        Check.sentence("next to the last one is place 0 again (all places below are meant like that)");
        // The eighth key of such a home lies at the last place, at place 0, and at place 6.
        for (int home : new int[] {capacity - 8, capacity - 7, capacity - 1}) {
            Arena x = Arenas.empty(1, capacity);
            int[] keys = new Keys(KeyFinder.seed(1, capacity), capacity).at(home, 8);
            int[] places = new int[capacity];
            for (int i = 0; i < 8; i++) {
                Arenas.putAll(x, 1, keys[i]);
                places[(home + i) % capacity] = keys[i];
                Check.due("distance", x.distance(1, keys[i]), i);
            }
            Check.due("places", Arenas.contents(x, 1), Arenas.contentsOf(KeyFinder.seed(1, capacity), places));
            Check.due("bits", x.bits(1, home), 255);
        }
    }

    private static void bitsOfPlacesNearTheEnd(int capacity) {
        Check.sentence("bit i is 1 when place h + i holds a key whose home is h");
        for (int before = 1; before <= 8; before++) {
            Arena x = Arenas.empty(2, capacity);
            Keys keys = new Keys(KeyFinder.seed(2, capacity), capacity);
            int h = capacity - before;
            int[] same = keys.at(h, 8);
            Arenas.putAll(x, 2, same);
            for (int i = 0; i < 8; i++) {
                x.remove(2, same[i]);
                Check.due("bits of place " + h + " without " + i, x.bits(2, h), 255 << (i + 1) & 255);
            }
        }
    }

    private static void placeHoldsKeyWithValueOrIsFree() {
        Check.sentence("A place holds a key with its value, or is FREE.");
        Arena x = new Arena();
        int[] odd = {0, -1, Integer.MIN_VALUE, Integer.MAX_VALUE};
        for (int key : odd) {
            for (int value : odd) {
                int place = x.home(0, key);
                Check.dueOutcome("free", () -> x.key(0, place), NO_ELEMENT);
                Check.due("no such key", x.has(0, key), false);
                x.put(0, key, value);
                Check.due("key", x.key(0, place), key);
                Check.due("value", x.get(0, key), value);
                x.remove(0, key);
                Check.dueOutcome("free again", () -> x.key(0, place), NO_ELEMENT);
            }
        }
    }

    private static void atFirst() {
        Check.sentence("At first, capacities are 8, bases 0, 8 and 16, seeds 1, 2 and 3, all places are free.");
        Arena x = new Arena();
        for (int map = 0; map < 3; map++) {
            int m = map;
            Check.due("capacity", x.about(map, 0), 8);
            Check.due("base", x.about(map, 1), 8 * map);
            Check.due("seed", x.about(map, 2), map + 1);
            for (int place = 0; place < 8; place++) {
                int p = place;
                Check.dueOutcome("free", () -> x.key(m, p), NO_ELEMENT);
                Check.due("no bits", x.bits(map, place), 0);
            }
        }
    }

    private static void homesInNumbers() {
        Check.sentence("THE HOME of a key in a map of capacity c is ((key exclusive-or seed) * -1640531535 >>> 9) "
                + "modulo c (ints that wrap; * before >>>).");
        int[] keys = {0, 1, 5, -1, 123456789, Integer.MAX_VALUE, Integer.MIN_VALUE};
        homesAre(0, 8, keys, 4, 0, 3, 6, 7, 6, 4);
        homesAre(1, 8, keys, 1, 6, 1, 1, 5, 1, 1);
        homesAre(2, 8, keys, 6, 1, 5, 4, 1, 4, 6);
        homesAre(0, 16, keys, 15, 12, 9, 3, 12, 3, 15);
        homesAre(1, 32, keys, 0, 29, 10, 2, 22, 2, 0);
        homesAre(2, 64, keys, 9, 5, 57, 58, 33, 58, 9);
        homesAre(0, 128, keys, 95, 34, 47, 99, 83, 99, 95);
    }

    private static void homesAre(int map, int capacity, int[] keys, int... due) {
        Arena x = Arenas.empty(map, capacity);
        for (int i = 0; i < keys.length; i++) {
            Check.due("home of " + keys[i] + " in " + capacity, x.home(map, keys[i]), due[i]);
            Check.due("not put", x.has(map, keys[i]), false);
            x.put(map, keys[i], 1);
            Check.due("home of one that is there", x.home(map, keys[i]), due[i]);
            Check.due("the key comes there", x.key(map, due[i]), keys[i]);
            x.remove(map, keys[i]);
        }
    }

    private static void homesByTheFormula() {
        for (int capacity : CAPACITIES) {
            for (int map = 0; map < 3; map++) {
                Arena x = Arenas.empty(map, capacity);
                boolean[] seen = new boolean[capacity];
                for (int i = 0; i < 1000; i++) {
                    int key = i * 7919 - 3_000_000;
                    int home = x.home(map, key);
                    Check.due("home of " + key, home, KeyFinder.home(key, KeyFinder.seed(map, capacity), capacity));
                    seen[home] = true;
                }
                Check.due("least and greatest home", seen[0] && seen[capacity - 1], true);
            }
        }
    }

    private static void distancesEndAtSeven() {
        Check.sentence("THE DISTANCE of a key is the number of places from its home on to the one that holds it, "
                + "0 .. 7 always.");
        Arena x = new Arena();
        boolean[] seen = new boolean[8];
        for (int key = 0; key < 400; key++) {
            int k = key * 31;
            Check.outcome(() -> x.put(1, k, 1));
            for (int place = 0; place < x.about(1, 0); place++) {
                if (x.next(1, place) == place) {
                    int there = x.key(1, place);
                    int distance = x.distance(1, there);
                    Check.due("distance is 0 .. 7", distance >= 0 && distance <= 7, true);
                    Check.due("home and distance", (x.home(1, there) + distance) % x.about(1, 0), place);
                    seen[Math.floorMod(distance, 8)] = true;
                }
            }
            if (key % 4 == 3) {
                Check.outcome(() -> x.remove(1, k / 2));
            }
        }
        for (int distance = 0; distance < 8; distance++) {
            Check.due("seen " + distance, seen[distance], true);
        }
    }

    private static void eachBitAlone() {
        Check.sentence("THE BITS of a place h: bit i is 1 when place h + i holds a key whose home is h.");
        for (int h = 0; h < 16; h++) {
            for (int i = 0; i < 8; i++) {
                Arena x = Arenas.withSixteen();
                int[] same = new Keys(KeyFinder.seed(0, 16), 16).at(h, i + 1);
                Arenas.putAll(x, 0, same);
                for (int j = 0; j < i; j++) {
                    x.remove(0, same[j]);
                }
                for (int place = 0; place < 16; place++) {
                    Check.due("bits of " + place + ", key of " + h + " alone at bit " + i, x.bits(0, place),
                            place == h ? 1 << i : 0);
                }
            }
        }
    }

    private static void bitsAreOfKeysAtHomeThere() {
        Arena x = Arenas.withSixteen();
        Keys keys = new Keys(KeyFinder.seed(0, 16), 16);
        int other = keys.at(4);
        Arenas.putAll(x, 0, other);
        Check.due("a key of another home", x.bits(0, 3) + " " + x.bits(0, 4), "0 1");
        Arenas.putAll(x, 0, keys.at(3, 2));
        Check.due("one on each side of it", x.bits(0, 3) + " " + x.bits(0, 4) + " " + x.bits(0, 5), "5 1 0");
        Arenas.putAll(x, 0, keys.at(11));
        Check.due("8 places behind is no bit", x.bits(0, 3), 5);
        x.remove(0, other);
        Check.due("a free place", x.bits(0, 3) + " " + x.bits(0, 4), "5 0");
        Arena full = new Arena();
        Keys ofEight = new Keys(1, 8);
        for (int home = 7; home >= 0; home--) {
            Arenas.putAll(full, 0, ofEight.at(home));
        }
        for (int place = 0; place < 8; place++) {
            Check.due("8 places behind is the place itself", full.bits(0, place), 1);
        }
    }

    private static void answersUpToTheLastCall() {
        Check.sentence("An object is used for at most 512 calls after it has been made");
        HopArena x = new HopArena();
        for (int call = 1; call < 512; call++) {
            int key = call;
            Check.dueOutcome("call " + call, () -> x.put(key % 3, key % 60, key), call > 60);
        }
        Check.due("call 512", x.get(511 % 3, 511 % 60), 511);
    }
}
