import java.util.ArrayList;
import java.util.List;

/** Inserting, growing, refusing and pushing together, with keys that are chosen by their homes. */
public final class GrowingTest {
    private static final String REFUSED = "ArithmeticException";
    private static final int SEED_AT_16 = KeyFinder.later(1, 1);
    private static final int SEED_AT_32 = KeyFinder.later(1, 2);

    public static void main(String[] args) {
        sevenBehindNeedsNoMove();
        oneMove();
        farthestHomeAndNearestKeyFirst();
        for (int shift = 0; shift < 16; shift++) {
            twoMoves(shift);
        }
        nothingBehindTheFreePlaceIsMoved();
        fullMapGrows();
        keysComeInTheOrderOfPlaces();
        failedInsertionMovesBeforeGrowing();
        growsAgainInTheSameOrder();
        oldKeyFailsInTheNewPart();
        refusedAfterTriesAndPush();
        refusedAtOnceBySum();
        refusedAfterMoves();
        refusedAt128();
        sumOf256IsEnough();
        partsUpToTheLastSlot();
        Check.end();
    }

    private static int[] at16(int home, int n) {
        return new KeyFinder().at(SEED_AT_16, 16, home % 16).find(n);
    }

    private static int at16(int home) {
        return at16(home, 1)[0];
    }

    /** What Arenas.contents tells of a map that holds these keys, given by places; 0 stands for a free place. */
    private static String contents(int seed, int... keysByPlace) {
        StringBuilder told = new StringBuilder("capacity " + keysByPlace.length + " seed " + seed);
        for (int place = 0; place < keysByPlace.length; place++) {
            int key = keysByPlace[place];
            if (key != 0) {
                told.append(' ').append(place).append(':').append(key).append('=').append(Arenas.valueOf(key));
            }
        }
        return told.toString();
    }

    private static void sevenBehindNeedsNoMove() {
        HopArena x = Arenas.withSixteen();
        int[] same = at16(13, 8);
        Arenas.putAll(x, 0, same);
        Check.due("seven behind: counts", Arenas.counts(x), "0 1 0");
        Check.due("seven behind: distance", x.distance(0, same[7]), 7);
        Check.due("seven behind: around the end", x.key(0, 4), same[7]);
        Check.due("seven behind: bits", x.bits(0, 13), 255);
    }

    private static void oneMove() {
        HopArena x = Arenas.withSixteen();
        int[] same = at16(0, 8);
        int moved = at16(7);
        Arenas.putAll(x, 0, same[0], same[1], same[2], same[3], same[4], same[5], same[6], moved, same[7]);
        Check.due("one move: places", Arenas.contents(x, 0), contents(SEED_AT_16, same[0], same[1], same[2], same[3],
                same[4], same[5], same[6], same[7], moved, 0, 0, 0, 0, 0, 0, 0));
        Check.due("one move: counts", Arenas.counts(x), "1 1 0");
        Check.due("one move: bits of its home", x.bits(0, 7), 2);
        Check.due("one move: bits of the new key's home", x.bits(0, 0), 255);
        Check.due("one move: distance", x.distance(0, moved), 1);
    }

    private static void farthestHomeAndNearestKeyFirst() {
        HopArena x = Arenas.withSixteen();
        int[] at0 = at16(0, 2);
        int[] at1 = at16(1, 2);
        int[] rest = {at16(3), at16(4), at16(5), at16(6), at16(7)};
        Arenas.putAll(x, 0, at0[0], at1[0], at1[1], rest[0], rest[1], rest[2], rest[3], rest[4], at0[1]);
        Check.due("which first: places", Arenas.contents(x, 0), contents(SEED_AT_16, at0[0], at0[1], at1[1], rest[0],
                rest[1], rest[2], rest[3], rest[4], at1[0], 0, 0, 0, 0, 0, 0, 0));
        Check.due("which first: bits", x.bits(0, 1), 128 + 2);
        Check.due("which first: moves", x.count(0), 1);
    }

    private static void twoMoves(int shift) {
        HopArena x = Arenas.withSixteen();
        int[] at0 = at16(shift, 8);
        int at1 = at16(shift + 1);
        int at8 = at16(shift + 8);
        int at9 = at16(shift + 9);
        Arenas.putAll(x, 0, at0[0], at0[1], at0[2], at0[3], at0[4], at0[5], at0[6], at1, at8, at9, at0[7]);
        int[] due = {at0[0], at0[1], at0[2], at0[3], at0[4], at0[5], at0[6], at0[7], at1, at9, at8, 0, 0, 0, 0, 0};
        int[] shifted = new int[16];
        for (int place = 0; place < 16; place++) {
            shifted[(place + shift) % 16] = due[place];
        }
        Check.due("two moves: places " + shift, Arenas.contents(x, 0), contents(SEED_AT_16, shifted));
        Check.due("two moves: counts " + shift, Arenas.counts(x), "2 1 0");
    }

    private static void nothingBehindTheFreePlaceIsMoved() {
        HopArena x = Arenas.withSixteen();
        int[] at0 = at16(0, 9);
        int[] at7 = at16(7, 2);
        for (int i = 0; i < 8; i++) {
            Arenas.putAll(x, 0, at0[i]);
        }
        Arenas.putAll(x, 0, at7);
        x.remove(0, at7[0]);
        Check.due("behind: bits", x.bits(0, 7), 4);
        Arenas.putAll(x, 0, at0[8]);
        Check.due("behind: it grew", x.about(0, 0), 32);
        Check.due("behind: counts", Arenas.counts(x), "0 2 0");
    }

    private static void fullMapGrows() {
        HopArena x = Arenas.withSixteen();
        for (int home = 0; home < 16; home++) {
            Arenas.putAll(x, 0, at16(home));
        }
        Check.due("full: capacity", x.about(0, 0), 16);
        Check.due("full: size", x.size(0), 16);
        int added = at16(9, 2)[1];
        Arenas.putAll(x, 0, added);
        Check.due("full: it grew", x.about(0, 0), 32);
        Check.due("full: base", x.about(0, 1), 40);
        Check.due("full: seed", x.about(0, 2), SEED_AT_32);
        Check.due("full: size then", x.size(0), 17);
        for (int home = 0; home < 16; home++) {
            Check.due("full: value", x.get(0, at16(home)), Arenas.valueOf(at16(home)));
        }
        Check.due("full: value of the new key", x.get(0, added), Arenas.valueOf(added));
    }

    private static void keysComeInTheOrderOfPlaces() {
        HopArena x = new HopArena();
        int[] keys = new int[8];
        for (int place = 7; place >= 0; place--) {
            keys[place] = new KeyFinder().at(1, 8, place).at(SEED_AT_16, 16, place == 7 ? 14 : 3).findOne();
            Arenas.putAll(x, 0, keys[place]);
        }
        int added = at16(3);
        Arenas.putAll(x, 0, added);
        Check.due("order: places", Arenas.contents(x, 0), contents(SEED_AT_16, 0, 0, 0, keys[0], keys[1], keys[2],
                keys[3], keys[4], keys[5], keys[6], added, 0, 0, 0, keys[7], 0));
        Check.due("order: bases", Arenas.bases(x), "24 8 16");
        Check.due("order: counts", Arenas.counts(x), "0 1 0");
    }

    private static void failedInsertionMovesBeforeGrowing() {
        HopArena x = Arenas.withSixteen();
        int[] at0 = new KeyFinder().at(SEED_AT_16, 16, 0).at(SEED_AT_32, 32, 6).find(8);
        int at8 = new KeyFinder().at(SEED_AT_16, 16, 8).at(SEED_AT_32, 32, 21).findOne();
        int at9 = new KeyFinder().at(SEED_AT_16, 16, 9).at(SEED_AT_32, 32, 21).findOne();
        int added = new KeyFinder().at(SEED_AT_16, 16, 0).at(SEED_AT_32, 32, 21).findOne();
        Arenas.putAll(x, 0, at0);
        Arenas.putAll(x, 0, at8, at9, added);
        int[] due = new int[32];
        System.arraycopy(at0, 0, due, 6, 8);
        due[21] = at9;
        due[22] = at8;
        due[23] = added;
        Check.due("failed with a move: places", Arenas.contents(x, 0), contents(SEED_AT_32, due));
        Check.due("failed with a move: counts", Arenas.counts(x), "1 2 0");
        Check.due("failed with a move: bases", Arenas.bases(x), "40 8 16");
    }

    private static void growsAgainInTheSameOrder() {
        HopArena x = new HopArena();
        int[] due = new int[32];
        for (int place = 0; place < 8; place++) {
            // Around the end of 16 places, the order of places there is not the one at first.
            int key = new KeyFinder().at(1, 8, place).at(SEED_AT_16, 16, 10).at(SEED_AT_32, 32, 2).findOne();
            Arenas.putAll(x, 0, key);
            due[2 + place] = key;
        }
        due[20] = new KeyFinder().at(SEED_AT_16, 16, 10).at(SEED_AT_32, 32, 20).findOne();
        Arenas.putAll(x, 0, due[20]);
        Check.due("grows again: places", Arenas.contents(x, 0), contents(SEED_AT_32, due));
        Check.due("grows again: bases", Arenas.bases(x), "24 8 16");
        Check.due("grows again: counts", Arenas.counts(x), "0 2 0");
    }

    private static void oldKeyFailsInTheNewPart() {
        HopArena x = Arenas.withSixteen();
        int seedAt64 = KeyFinder.later(1, 3);
        List<Integer> keys = new ArrayList<>();
        for (int home = 0; home < 16; home++) {
            int later = home >= 7 && home <= 11 ? 3 : 9;
            int key = new KeyFinder().at(SEED_AT_16, 16, home).at(SEED_AT_32, 32, later).findOne();
            Arenas.putAll(x, 0, key);
            keys.add(key);
        }
        int added = new KeyFinder().at(SEED_AT_32, 32, 30).findOne();
        Arenas.putAll(x, 0, added);
        keys.add(added);
        Check.due("old key fails: capacity", x.about(0, 0), 64);
        Check.due("old key fails: seed", x.about(0, 2), seedAt64);
        Check.due("old key fails: bases", Arenas.bases(x), "40 8 16");
        Check.due("old key fails: new parts", x.count(1), 3);
        Check.due("old key fails: size", x.size(0), 17);
        for (int key : keys) {
            Check.due("old key fails: value", x.get(0, key), Arenas.valueOf(key));
        }
    }

    private static void refusedAfterTriesAndPush() {
        HopArena x = new HopArena();
        Arenas.growTo(x, 1, 64);
        Arenas.growTo(x, 2, 64);
        x.clear(1);
        x.clear(2);
        Check.due("refused after tries: bases at first", Arenas.bases(x), "0 72 184");
        // A home depends on the lower 16 bits of a key at most, so that these never come apart.
        int[] nine = new int[9];
        for (int i = 0; i < 9; i++) {
            nine[i] = 1000 + (i << 16);
        }
        Arenas.putAll(x, 0, 1, 2, 3);
        Arenas.putAll(x, 1, 4, 5, 6);
        for (int i = 0; i < 8; i++) {
            Arenas.putAll(x, 2, nine[i]);
        }
        String[] before = {Arenas.contents(x, 0), Arenas.contents(x, 1), Arenas.contents(x, 2)};
        int[] counts = {x.count(0), x.count(1), x.count(2)};
        Check.dueOutcome("refused after tries", () -> x.put(2, nine[8], 1), REFUSED);
        for (int map = 0; map < 3; map++) {
            Check.due("refused after tries: contents " + map, Arenas.contents(x, map), before[map]);
        }
        Check.due("refused after tries: pushed together", Arenas.bases(x), "0 8 16");
        Check.due("refused after tries: counts", Arenas.counts(x),
                counts[0] + " " + (counts[1] + 4) + " " + (counts[2] + 1));
        Check.due("refused after tries: not there", x.has(2, nine[8]), false);
        x.remove(2, nine[3]);
        Check.dueOutcome("refused after tries: room again", () -> x.put(2, nine[8], 1), false);
        Check.due("refused after tries: capacity", x.about(2, 0), 8);
    }

    /** Puts new keys from 1000 on until that is refused, and looks at what the refused call left. */
    private static void putUntilRefused(HopArena x, int map) {
        int capacity = x.about(map, 0);
        int seed = x.about(map, 2);
        String bases = Arenas.bases(x);
        int parts = x.count(1);
        int pushes = x.count(2);
        List<Integer> keys = new ArrayList<>();
        int held = x.size(map);
        int key = 1000;
        while (keys.size() <= 128 && putOutcome(x, map, key).equals("false")) {
            keys.add(key++);
        }
        Check.dueOutcome("refused", () -> putOutcome(x, map, 1000 + keys.size()), REFUSED);
        Check.due("refused: not there", x.has(map, key), false);
        Check.due("refused: size", x.size(map), held + keys.size());
        for (int there : keys) {
            Check.dueOutcome("refused: value", () -> x.get(map, there), Arenas.valueOf(there));
        }
        Check.due("refused: capacity", x.about(map, 0), capacity);
        Check.due("refused: seed", x.about(map, 2), seed);
        Check.due("refused: bases", Arenas.bases(x), bases);
        Check.due("refused: new parts", x.count(1), parts);
        Check.due("refused: pushes", x.count(2), pushes);
    }

    private static String putOutcome(HopArena x, int map, int key) {
        return Check.outcome(() -> x.put(map, key, Arenas.valueOf(key)));
    }

    private static void refusedAtOnceBySum() {
        HopArena x = new HopArena();
        Arenas.growTo(x, 0, 64);
        Arenas.growTo(x, 1, 64);
        Check.due("sum: bases", Arenas.bases(x), "72 184 16");
        growPushing("sum", x, 64, "8 72 184");
        String other = Arenas.contents(x, 1);
        putUntilRefused(x, 0);
        Check.due("sum: other map", Arenas.contents(x, 1), other);
    }

    private static void refusedAfterMoves() {
        HopArena x = new HopArena();
        Arenas.growTo(x, 0, 128);
        Arenas.growTo(x, 1, 64);
        Arenas.growTo(x, 2, 32);
        Arenas.removeAll(x, 2);
        int seed = KeyFinder.later(3, 2);
        int[] at0 = new KeyFinder().at(seed, 32, 0).find(9);
        int at8 = new KeyFinder().at(seed, 32, 8).findOne();
        int at9 = new KeyFinder().at(seed, 32, 9).findOne();
        for (int i = 0; i < 8; i++) {
            Arenas.putAll(x, 2, at0[i]);
        }
        Arenas.putAll(x, 2, at8, at9);
        String bases = Arenas.bases(x);
        int[] counts = {x.count(0), x.count(1), x.count(2)};
        Check.dueOutcome("refused after moves", () -> x.put(2, at0[8], 1), REFUSED);
        int[] due = new int[32];
        System.arraycopy(at0, 0, due, 0, 8);
        due[9] = at9;
        due[10] = at8;
        Check.due("refused after moves: places", Arenas.contents(x, 2), contents(seed, due));
        Check.due("refused after moves: counts", Arenas.counts(x),
                (counts[0] + 1) + " " + counts[1] + " " + counts[2]);
        Check.due("refused after moves: bases", Arenas.bases(x), bases);
        Check.dueOutcome("refused after moves: not there", () -> x.get(2, at0[8]), "NoSuchElementException");
    }

    private static void refusedAt128() {
        HopArena x = new HopArena();
        Arenas.growTo(x, 1, 128);
        putUntilRefused(x, 1);
    }

    /** Map 2 grows, which pushes the parts together for the first time; the others keep their keys and places. */
    private static void growPushing(String what, HopArena x, int capacity, String bases) {
        Check.due(what + ": not pushed yet", x.count(2), 0);
        String[] before = {Arenas.contents(x, 0), Arenas.contents(x, 1)};
        Arenas.growTo(x, 2, capacity);
        Check.due(what + ": bases", Arenas.bases(x), bases);
        Check.due(what + ": pushes", x.count(2), 1);
        for (int map = 0; map < 2; map++) {
            Check.due(what + ": keys keep their places", Arenas.contents(x, map), before[map]);
        }
    }

    private static void sumOf256IsEnough() {
        HopArena x = new HopArena();
        Arenas.growTo(x, 0, 32);
        Arenas.growTo(x, 1, 32);
        Arenas.growTo(x, 2, 64);
        Check.due("256: bases at first", Arenas.bases(x), "40 88 168");
        growPushing("256", x, 128, "0 32 128");
        Check.due("256: new parts", x.count(1), 8);
    }

    private static void partsUpToTheLastSlot() {
        HopArena x = new HopArena();
        Arenas.growTo(x, 1, 64);
        Arenas.growTo(x, 2, 64);
        x.clear(1);
        x.clear(2);
        Arenas.growTo(x, 0, 32);
        Arenas.growTo(x, 1, 16);
        Check.due("last slot: bases at first", Arenas.bases(x), "208 240 184");
        growPushing("last slot", x, 16, "8 40 56");
    }
}
