import java.util.ArrayList;
import java.util.Arrays;
import java.util.Comparator;
import java.util.List;
import java.util.NoSuchElementException;
import java.util.Random;

/**
 * Long runs of calls on the class and on a model of the document side by side. All that can be seen of the object is
 * compared after each call that may change it.
 */
public final class ModelTest {
    private static final int RUNS = 500;
    private static final int CALLS = 250;

    /** What a key of the model has at its place. */
    private record Entry(int key, int value) { }

    /** A map of the model; it has no arena, only a base to tell. */
    private static final class Table {
        int base;
        final int seed;
        final Entry[] places;

        Table(int base, int capacity, int seed) {
            this.base = base;
            this.seed = seed;
            this.places = new Entry[capacity];
        }

        int home(int key) {
            long spread = Integer.toUnsignedLong((key ^ seed) * -1640531535);
            return (int) (spread / 512 % places.length);
        }

        int place(int key) {
            for (int place = 0; place < places.length; place++) {
                if (places[place] != null && places[place].key() == key) {
                    return place;
                }
            }
            return HopArena.NONE;
        }

        int behind(int place, int home) {
            return Math.floorMod(place - home, places.length);
        }

        int bits(int home) {
            int bits = 0;
            for (int place = 0; place < places.length; place++) {
                if (places[place] != null && home(places[place].key()) == home) {
                    bits |= 1 << behind(place, home);
                }
            }
            return bits;
        }

        int firstFree(int home) {
            int found = HopArena.NONE;
            for (int place = 0; place < places.length; place++) {
                boolean nearer = found == HopArena.NONE || behind(place, home) < behind(found, home);
                if (places[place] == null && nearer) {
                    found = place;
                }
            }
            return found;
        }

        int held() {
            int held = 0;
            for (Entry entry : places) {
                held += entry == null ? 0 : 1;
            }
            return held;
        }
    }

    /** The document, told again with other means. */
    private static final class Model {
        final Table[] tables = {new Table(0, 8, 1), new Table(8, 8, 2), new Table(16, 8, 3)};
        final int[] counts = new int[3];
        int refusals;
        int refusalsAfterTries;
        int secondTries;
        int failedWithMoves;

        boolean insert(Table table, Entry entry) {
            int home = table.home(entry.key());
            int free = table.firstFree(home);
            if (free == HopArena.NONE) {
                return false;
            }
            while (table.behind(free, home) >= 8) {
                int from = movable(table, free);
                if (from == HopArena.NONE) {
                    return false;
                }
                table.places[free] = table.places[from];
                table.places[from] = null;
                free = from;
                counts[0]++;
            }
            table.places[free] = entry;
            return true;
        }

        int movable(Table table, int free) {
            int capacity = table.places.length;
            for (int d = 7; d >= 1; d--) {
                int bits = table.bits(Math.floorMod(free - d, capacity));
                int nearest = Integer.numberOfTrailingZeros(bits);
                if (nearest < d) {
                    return Math.floorMod(free - d + nearest, capacity);
                }
            }
            return HopArena.NONE;
        }

        boolean put(int map, int key, int value) {
            Table table = tables[map];
            int place = table.place(key);
            if (place != HopArena.NONE) {
                table.places[place] = new Entry(key, value);
                return true;
            }
            int movesBefore = counts[0];
            Entry entry = new Entry(key, value);
            if (!insert(table, entry)) {
                failedWithMoves += counts[0] > movesBefore ? 1 : 0;
                grow(map, entry);
            }
            return false;
        }

        void grow(int map, Entry added) {
            Table old = tables[map];
            List<Entry> entries = new ArrayList<>(Arrays.asList(old.places));
            entries.removeIf(entry -> entry == null);
            entries.add(added);
            int capacity = old.places.length;
            int seed = old.seed;
            int tries = 0;
            do {
                capacity *= 2;
                seed = seed * 1664525 + 1013904223;
                if (capacity > 128 || capacitySum() + capacity > 256) {
                    refusals++;
                    refusalsAfterTries += tries > 0 ? 1 : 0;
                    throw new ArithmeticException();
                }
                secondTries += tries > 0 ? 1 : 0;
                tries++;
            } while (!rebuilt(map, capacity, seed, entries));
        }

        boolean rebuilt(int map, int capacity, int seed, List<Entry> entries) {
            if (end() + capacity > 256) {
                pushTogether();
            }
            Table fresh = new Table(end(), capacity, seed);
            counts[1]++;
            for (Entry entry : entries) {
                if (!insert(fresh, entry)) {
                    return false;
                }
            }
            tables[map] = fresh;
            return true;
        }

        int capacitySum() {
            return Arrays.stream(tables).mapToInt(table -> table.places.length).sum();
        }

        int end() {
            return Arrays.stream(tables).mapToInt(table -> table.base + table.places.length).max().getAsInt();
        }

        void pushTogether() {
            Table[] sorted = tables.clone();
            Arrays.sort(sorted, Comparator.comparingInt(table -> table.base));
            int end = 0;
            for (Table table : sorted) {
                table.base = end;
                end += table.places.length;
            }
            counts[2]++;
        }

        int remove(int map, int key) {
            Table table = tables[map];
            int place = table.place(key);
            if (place == HopArena.NONE) {
                throw new NoSuchElementException();
            }
            int value = table.places[place].value();
            table.places[place] = null;
            return value;
        }

        int clear(int map) {
            Table table = tables[map];
            tables[map] = new Table(table.base, 8, table.seed);
            return table.held();
        }
    }

    /** Keys that come again, that are far apart, or that crowd in few homes of the map's later capacities. */
    private static final class KeySource {
        final Random random;
        final int kind;
        final int range;
        final int seed;

        KeySource(Random random, int seed) {
            this.random = random;
            this.kind = random.nextInt(5);
            this.range = 4 << random.nextInt(8);
            this.seed = seed;
        }

        int draw() {
            switch (kind) {
                case 0:
                    return random.nextInt(range) - range / 2;
                case 1:
                    return random.nextInt();
                case 2:
                    return crowding(1, 15);
                case 3:
                    // Homes depend on the lower bits of a key alone.
                    return random.nextInt(2) == 0 ? random.nextInt(range)
                            : random.nextInt(20) << 13 + random.nextInt(4);
                default:
                    return crowding(2 + random.nextInt(2), 31);
            }
        }

        int crowding(int generations, int mask) {
            int later = seed;
            for (int i = 0; i < generations; i++) {
                later = later * 1664525 + 1013904223;
            }
            for (int tries = 0; tries < 100; tries++) {
                int key = random.nextInt(1 << 20);
                if (((key ^ later) * -1640531535 >>> 9 & mask) < 3) {
                    return key;
                }
            }
            return random.nextInt(1 << 20);
        }
    }

    private static void run(int number, Model model) {
        Random random = new Random(number);
        Arena x = new Arena();
        KeySource[] sources = {new KeySource(random, 1), new KeySource(random, 2), new KeySource(random, 3)};
        int favourite = random.nextInt(3);
        int removals = random.nextInt(30);
        int clears = random.nextInt(3);
        StringBuilder told = new StringBuilder();
        compare(number, "new", x, model, 0, 0);
        for (int call = 0; call < CALLS && Check.allRight(); call++) {
            int map = random.nextInt(2) == 0 ? favourite : random.nextInt(3);
            int key = sources[map].draw();
            int value = random.nextInt();
            int dice = random.nextInt(100);
            String name;
            String got;
            String want;
            if (dice < removals) {
                int removed = random.nextInt(4) == 0 ? key : someKey(model.tables[map], random, key);
                name = "remove(" + map + ", " + removed + ")";
                got = Check.outcome(() -> x.remove(map, removed));
                want = Check.outcome(() -> model.remove(map, removed));
            } else if (dice < removals + clears) {
                name = "clear(" + map + ")";
                got = Check.outcome(() -> x.clear(map));
                want = Check.outcome(() -> model.clear(map));
            } else {
                name = "put(" + map + ", " + key + ", " + value + ")";
                got = Check.outcome(() -> x.put(map, key, value));
                want = Check.outcome(() -> model.put(map, key, value));
            }
            told.append(name).append(' ');
            Check.due("run " + number + " call " + call + " " + name, got, want);
            compare(number, name, x, model, map, key);
        }
        if (!Check.allRight()) {
            System.out.println("calls of run " + number + ": " + told);
        }
    }

    private static int someKey(Table table, Random random, int otherwise) {
        int from = random.nextInt(table.places.length);
        for (int place = from; place < table.places.length; place++) {
            if (table.places[place] != null) {
                return table.places[place].key();
            }
        }
        return otherwise;
    }

    private static void compare(int run, String after, Arena x, Model model, int touched, int key) {
        String where = "run " + run + " after " + after + " ";
        for (int what = 0; what < 3; what++) {
            Check.due(where + "count " + what, x.count(what), model.counts[what]);
        }
        for (int map = 0; map < 3; map++) {
            compareMap(where + "map " + map + " ", x, map, model.tables[map]);
        }
        Table table = model.tables[touched];
        Check.due(where + "has", x.has(touched, key), table.place(key) != HopArena.NONE);
        Check.due(where + "home", x.home(touched, key), table.home(key));
    }

    private static void compareMap(String where, Arena x, int map, Table table) {
        int capacity = table.places.length;
        Check.due(where + "capacity", x.about(map, 0), capacity);
        Check.due(where + "base", x.about(map, 1), table.base);
        Check.due(where + "seed", x.about(map, 2), table.seed);
        Check.due(where + "size", x.size(map), table.held());
        if (!Check.allRight()) {
            return;
        }
        int next = HopArena.NONE;
        for (int place = capacity - 1; place >= 0; place--) {
            int p = place;
            Entry entry = table.places[place];
            next = entry == null ? next : place;
            Check.due(where + "next " + place, x.next(map, place), next);
            Check.due(where + "bits " + place, x.bits(map, place), table.bits(place));
            Check.due(where + "key " + place, Check.outcome(() -> x.key(map, p)),
                    entry == null ? "NoSuchElementException" : String.valueOf(entry.key()));
            if (entry != null) {
                int key = entry.key();
                Check.due(where + "get " + key, Check.outcome(() -> x.get(map, key)), String.valueOf(entry.value()));
                Check.due(where + "distance " + key, Check.outcome(() -> x.distance(map, key)),
                        String.valueOf(table.behind(place, table.home(key))));
            }
        }
    }

    public static void main(String[] args) {
        int[] seen = new int[7];
        for (int number = 0; number < RUNS && Check.allRight(); number++) {
            Model model = new Model();
            run(number, model);
            int[] events = {model.counts[0], model.counts[1], model.counts[2], model.refusals,
                model.refusalsAfterTries, model.secondTries, model.failedWithMoves};
            for (int i = 0; i < seen.length; i++) {
                seen[i] += events[i];
            }
        }
        System.out.println("moves, new parts, pushes, refusals, refusals after tries, second tries, "
                + "failed insertions with moves: " + Arrays.toString(seen));
        for (int events : seen) {
            // Runs in which something never happens would prove nothing about it.
            Check.due("happened often enough", !Check.allRight() || events >= 10, true);
        }
        Check.end();
    }
}
