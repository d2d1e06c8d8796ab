/** What "Terms" says of growing that is refused: a test for each sentence. */
public final class RefusingTest {
    private static final String REFUSED = "ArithmeticException";

    public static void main(String[] args) {
        capacityAbove128();
        sumAbove256();
        sumOf256IsEnough();
        sumOf256WhenGrowingAgain();
        asSoonAs();
        allAsWhenItBeganToGrow();
        itMayLieSomewhereElse();
        seedGoesOnFromWhatItWas();
        movesOfTheFailedInsertionStay();
        movesInTheNewPartDoNotStay();
        oneKeyLessFitsAgain();
        knownKeyNeedsNoRoom();
        Check.end();
    }

    /** A map of these capacities is put eight keys into that nothing parts, and a ninth one. */
    private static void refused(int map, int tries, int... capacities) {
        Arena x = Arenas.withCapacities(capacities);
        Arenas.removeAll(x, map);
        int[] nine = KeyFinder.inseparable(9);
        Arenas.putAll(x, map, java.util.Arrays.copyOf(nine, 8));
        String contents = Arenas.contents(x);
        String bases = Arenas.bases(x);
        int end = end(x);
        int[] counts = {x.count(0), x.count(1), x.count(2)};
        String what = Arenas.capacities(x) + " map " + map;
        Check.dueOutcome(what, () -> x.put(map, nine[8], 1), REFUSED);
        Check.due(what + ": contents", Arenas.contents(x), contents);
        Check.due(what + ": not there", x.has(map, nine[8]), false);
        boolean pushed = tries > 0 && end + (capacities[map] << tries) > 256;
        Check.due(what + ": counts", Arenas.counts(x),
                counts[0] + " " + (counts[1] + tries) + " " + (counts[2] + (pushed ? 1 : 0)));
        if (pushed) {
            Check.due(what + ": no gaps", end(x), capacities[0] + capacities[1] + capacities[2]);
        } else {
            Check.due(what + ": bases", Arenas.bases(x), bases);
        }
    }

    private static int end(Arena x) {
        int end = 0;
        for (int map = 0; map < 3; map++) {
            end = Math.max(end, x.about(map, 1) + x.about(map, 0));
        }
        return end;
    }

    private static void capacityAbove128() {
        Check.sentence("It is REFUSED, as soon as the capacity would be above 128");
        for (int map = 0; map < 3; map++) {
            int[] capacities = {8, 8, 8};
            for (int tries = 4; tries >= 0; tries--) {
                capacities[map] = 128 >> tries;
                refused(map, tries, capacities);
            }
        }
    }

    private static void sumAbove256() {
        Check.sentence("or the sum of the capacities of the two others, of what this map had at first and of what it "
                + "would have is above 256");
        // 64 + 8 + 64 + 128 = 264
        refused(2, 0, 64, 8, 64);
        refused(0, 0, 64, 8, 64);
        // 128 + 64 + 8 + 32 = 232, and 128 + 64 + 8 + 64 = 264
        refused(2, 2, 128, 64, 8);
        refused(0, 2, 8, 128, 64);
        refused(1, 2, 64, 8, 128);
        // 128 + 64 + 16 + 32 = 240, and 128 + 64 + 16 + 64 = 272
        refused(2, 1, 128, 64, 16);
        // 128 + 8 + 8 + 64 = 208, and 128 + 8 + 8 + 128 = 272
        refused(1, 3, 128, 8, 8);
        // 128 + 64 + 32 + 64 = 288
        refused(2, 0, 128, 64, 32);
        // 64 + 64 + 32 + 64 = 224, and 64 + 64 + 32 + 128 = 288
        refused(2, 1, 64, 64, 32);
        refused(1, 0, 64, 64, 32);
        // 32 + 16 + 64 + 128 = 240, and 256 is above 128
        refused(2, 1, 32, 16, 64);
        // 32 + 32 + 64 + 128 = 256
        refused(2, 1, 32, 32, 64);
        // 128 + 32 + 32 + 64 = 256, and 128 + 32 + 32 + 128 = 320
        refused(2, 1, 128, 32, 32);
        // 64 + 32 + 32 + 64 = 192, and 64 + 32 + 32 + 128 = 256: what it had at first is 32 both times
        refused(2, 2, 64, 32, 32);
        refused(1, 2, 64, 32, 32);
    }

    private static void sumOf256IsEnough() {
        grows(2, 128, "64 96 128", 32, 32, 64);
        grows(2, 64, "0 128 192", 128, 32, 32);
        // A sum of 240.
        grows(2, 128, "64 96 112", 32, 16, 64);
    }

    /** A map of these capacities grows once, for which parts are pushed together; the others keep keys and places. */
    private static void grows(int map, int capacity, String bases, int... capacities) {
        Arena x = Arenas.withCapacities(capacities);
        int before = x.count(2);
        int parts = x.count(1);
        String others = Arenas.contents(x, (map + 1) % 3) + Arenas.contents(x, (map + 2) % 3);
        Arenas.growTo(x, map, capacity);
        Check.due("bases", Arenas.bases(x), bases);
        Check.due("new parts", x.count(1) - parts, 1);
        Check.due("pushes", x.count(2) - before, 1);
        Check.due("others", Arenas.contents(x, (map + 1) % 3) + Arenas.contents(x, (map + 2) % 3), others);
    }

    private static void sumOf256WhenGrowingAgain() {
        Arena x = Arenas.withCapacities(64, 32, 32);
        Arenas.removeAll(x, 2);
        int[] nine = nineFor128();
        int parts = x.count(1);
        Arenas.putAll(x, 2, nine);
        Check.due("capacities", Arenas.capacities(x), "64 32 128");
        Check.due("new parts", x.count(1) - parts, 2);
        Check.due("seed", x.about(2, 2), KeyFinder.seed(2, 128));
        Check.due("up to slot 255", x.about(2, 1), 128);
        for (int key : nine) {
            Check.dueOutcome("value", () -> x.get(2, key), Arenas.valueOf(key));
        }
    }

    /** Nine keys that map 2 can't hold at capacities 32 and 64, as all have one home there, but can at 128. */
    private static int[] nineFor128() {
        int[] nine = new int[9];
        int[] found = new KeyFinder().at(KeyFinder.seed(2, 32), 32, 5).at(KeyFinder.seed(2, 64), 64, 11).find(400);
        int home = KeyFinder.home(found[0], KeyFinder.seed(2, 128), 128);
        int same = 0;
        for (int key : found) {
            boolean isSame = KeyFinder.home(key, KeyFinder.seed(2, 128), 128) == home;
            if (isSame && same < 8) {
                nine[same++] = key;
            } else if (!isSame) {
                nine[8] = key;
            }
        }
        return nine;
    }

    private static void asSoonAs() {
        Check.sentence("It is REFUSED, as soon as");
        putUntilRefused(0, 64, 8, 64);
        putUntilRefused(2, 64, 8, 64);
        putUntilRefused(2, 128, 64, 32);
        putUntilRefused(1, 8, 128, 8);
    }

    /** New keys are put until that is refused at once: no new part was made, and no part was moved. */
    private static void putUntilRefused(int map, int... capacities) {
        Arena x = Arenas.withCapacities(capacities);
        boolean gaps = end(x) > capacities[0] + capacities[1] + capacities[2];
        Check.due("pushing could be seen", gaps, true);
        int seed = x.about(map, 2);
        int parts = x.count(1);
        int pushes = x.count(2);
        int held = x.size(map);
        String bases = Arenas.bases(x);
        String others = Arenas.contents(x, (map + 1) % 3) + Arenas.contents(x, (map + 2) % 3);
        int key = 1000;
        while (key < 1128 && put(x, map, key).equals("false")) {
            key++;
        }
        Check.due("refused again", put(x, map, key), REFUSED);
        Check.due("not there", x.has(map, key), false);
        Check.due("size", x.size(map), held + key - 1000);
        for (int there = 1000; there < key; there++) {
            int k = there;
            Check.dueOutcome("value", () -> x.get(map, k), Arenas.valueOf(k));
        }
        Check.due("capacity", x.about(map, 0), capacities[map]);
        Check.due("seed", x.about(map, 2), seed);
        Check.due("bases", Arenas.bases(x), bases);
        Check.due("new parts", x.count(1), parts);
        Check.due("pushes", x.count(2), pushes);
        Check.due("others", Arenas.contents(x, (map + 1) % 3) + Arenas.contents(x, (map + 2) % 3), others);
    }

    private static String put(Arena x, int map, int key) {
        return Check.outcome(() -> x.put(map, key, Arenas.valueOf(key)));
    }

    private static void allAsWhenItBeganToGrow() {
        Check.sentence("When it is refused, the map has capacity, seed, places and keys as when it began to grow");
        for (int map = 0; map < 3; map++) {
            Arena x = new Arena();
            int[] nine = KeyFinder.inseparable(9);
            Arenas.putAll(x, map, java.util.Arrays.copyOf(nine, 8));
            String contents = Arenas.contents(x);
            Check.due("the ninth", put(x, map, nine[8]), REFUSED);
            Check.due("contents", Arenas.contents(x), contents);
            Check.due("size", x.size(map), 8);
            Check.due("home", x.home(map, nine[8]), KeyFinder.home(nine[8], map + 1, 8));
            Check.due("distances", x.distance(map, nine[0]) + " " + x.distance(map, nine[7]), "0 7");
            Check.due("bits", x.bits(map, x.home(map, nine[0])), 255);
            Check.due("counts", Arenas.counts(x), "0 4 0");
            Check.due("bases", Arenas.bases(x), "0 8 16");
        }
    }

    private static void itMayLieSomewhereElse() {
        Check.sentence("(it may lie somewhere else)");
        Arena x = new Arena();
        Arenas.growTo(x, 1, 64);
        Arenas.growTo(x, 2, 64);
        x.clear(1);
        x.clear(2);
        Check.due("bases before", Arenas.bases(x), "0 72 184");
        int[] nine = KeyFinder.inseparable(9);
        Arenas.putAll(x, 0, 1, 2, 3);
        Arenas.putAll(x, 1, 4, 5, 6);
        Arenas.putAll(x, 2, java.util.Arrays.copyOf(nine, 8));
        String contents = Arenas.contents(x);
        int[] counts = {x.count(0), x.count(1), x.count(2)};
        Check.due("the ninth", put(x, 2, nine[8]), REFUSED);
        Check.due("contents", Arenas.contents(x), contents);
        Check.due("bases", Arenas.bases(x), "0 8 16");
        // 192 .. 255 had room for 64 places, 192 .. 319 would be those of 128.
        Check.due("counts", Arenas.counts(x), counts[0] + " " + (counts[1] + 4) + " " + (counts[2] + 1));
        Check.due("the ninth again", put(x, 2, nine[8]), REFUSED);
        Check.due("bases then", Arenas.bases(x), "0 8 16");
        Check.due("counts then", Arenas.counts(x), counts[0] + " " + (counts[1] + 8) + " " + (counts[2] + 1));
    }

    private static void seedGoesOnFromWhatItWas() {
        Check.sentence("the map has capacity, seed, places and keys as when it began to grow");
        Arena x = Arenas.withCapacities(64, 128, 8);
        Arenas.putAll(x, 2, java.util.Arrays.copyOf(KeyFinder.inseparable(9), 8));
        Check.due("refused", put(x, 2, KeyFinder.inseparable(9)[8]), REFUSED);
        Check.due("seed", x.about(2, 2), 3);
        Arenas.removeAll(x, 2);
        Arenas.growTo(x, 2, 16);
        Check.due("seed when it grows", x.about(2, 2), KeyFinder.later(3, 1));
        Arenas.growTo(x, 2, 32);
        Check.due("seed when it grows again", x.about(2, 2), KeyFinder.later(3, 2));
    }

    private static void movesOfTheFailedInsertionStay() {
        Check.sentence("growing was refused; the key is not there, all others are (some of them moved)");
        Arena x = Arenas.withCapacities(128, 64, 32);
        Arenas.removeAll(x, 2);
        int seed = KeyFinder.seed(2, 32);
        Keys keys = new Keys(seed, 32);
        int[] places = new int[32];
        for (int place = 0; place < 8; place++) {
            places[place] = keys.at(0);
        }
        int at8 = keys.at(8);
        int at9 = keys.at(9);
        Arenas.putAll(x, 2, java.util.Arrays.copyOf(places, 8));
        Arenas.putAll(x, 2, at8, at9);
        String others = Arenas.contents(x, 0) + Arenas.contents(x, 1);
        String bases = Arenas.bases(x);
        int[] counts = {x.count(0), x.count(1), x.count(2)};
        int added = keys.at(0);
        Check.due("put", put(x, 2, added), REFUSED);
        places[9] = at9;
        places[10] = at8;
        Check.due("places", Arenas.contents(x, 2), Arenas.contentsOf(seed, places));
        Check.due("others", Arenas.contents(x, 0) + Arenas.contents(x, 1), others);
        Check.due("bases", Arenas.bases(x), bases);
        Check.due("counts", Arenas.counts(x), (counts[0] + 1) + " " + counts[1] + " " + counts[2]);
        Check.due("not there", x.has(2, added), false);
        // The free place is 8 behind its home now, and still nothing can be moved to it.
        Check.due("put again", put(x, 2, added), REFUSED);
        Check.due("places then", Arenas.contents(x, 2), Arenas.contentsOf(seed, places));
        Check.due("moves then", x.count(0), counts[0] + 1);
    }

    private static void movesInTheNewPartDoNotStay() {
        Check.sentence("the map has capacity, seed, places and keys as when it began to grow");
        Arena x = Arenas.withCapacities(64, 64, 32);
        Arenas.removeAll(x, 2);
        int seed = KeyFinder.seed(2, 32);
        int seedAt64 = KeyFinder.seed(2, 64);
        // In 32 places and in 64, what is at place 8 moves to place 10 for the ninth key, and nothing to place 8.
        int[] nine = new KeyFinder().at(seed, 32, 0).at(seedAt64, 64, 0).find(9);
        int at8 = new KeyFinder().at(seed, 32, 8).at(seedAt64, 64, 8).findOne();
        int at9 = new KeyFinder().at(seed, 32, 9).at(seedAt64, 64, 9).findOne();
        int[] places = java.util.Arrays.copyOf(nine, 32);
        places[8] = 0;
        Arenas.putAll(x, 2, java.util.Arrays.copyOf(nine, 8));
        Arenas.putAll(x, 2, at8, at9);
        String others = Arenas.contents(x, 0) + Arenas.contents(x, 1);
        int[] counts = {x.count(0), x.count(1), x.count(2)};
        Check.due("put", put(x, 2, nine[8]), REFUSED);
        places[9] = at9;
        places[10] = at8;
        Check.due("places", Arenas.contents(x, 2), Arenas.contentsOf(seed, places));
        Check.due("others", Arenas.contents(x, 0) + Arenas.contents(x, 1), others);
        Check.due("moves in both parts", x.count(0) - counts[0], 2);
        Check.due("new parts", x.count(1) - counts[1], 1);
        Check.due("not there", x.has(2, nine[8]), false);
    }

    private static void oneKeyLessFitsAgain() {
        Check.sentence("the key is not there, all others are");
        Arena x = new Arena();
        int[] nine = KeyFinder.inseparable(9);
        Arenas.putAll(x, 1, java.util.Arrays.copyOf(nine, 8));
        Check.due("refused", put(x, 1, nine[8]), REFUSED);
        Check.dueOutcome("no value", () -> x.get(1, nine[8]), "NoSuchElementException");
        for (int i = 0; i < 8; i++) {
            int key = nine[i];
            Check.dueOutcome("value", () -> x.get(1, key), Arenas.valueOf(key));
        }
        x.remove(1, nine[3]);
        Check.due("room again", put(x, 1, nine[8]), "false");
        Check.due("where the other one was", x.distance(1, nine[8]), 3);
        Check.due("counts", Arenas.counts(x), "0 4 0");
    }

    private static void knownKeyNeedsNoRoom() {
        Check.sentence("A key has a value from now on: whether it had one before. If it is new, it is inserted");
        Arena x = new Arena();
        int[] nine = KeyFinder.inseparable(9);
        Arenas.putAll(x, 1, java.util.Arrays.copyOf(nine, 8));
        for (int i = 0; i < 8; i++) {
            int key = nine[i];
            Check.dueOutcome("known key of a full map", () -> x.put(1, key, key), true);
            Check.due("its value and distance", x.get(1, key) + " " + x.distance(1, key), key + " " + i);
        }
        Check.due("counts", Arenas.counts(x), "0 0 0");
        Check.due("refused", put(x, 1, nine[8]), REFUSED);
        Check.dueOutcome("known key after that", () -> x.put(1, nine[7], 5), true);
        Check.due("its value", x.get(1, nine[7]), 5);
    }
}
