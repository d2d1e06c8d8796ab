/** What "Terms" says of growing and of pushing parts together: a test for each sentence. */
public final class GrowingTest {
    private static final int SEED_AT_16 = KeyFinder.seed(0, 16);
    private static final int SEED_AT_32 = KeyFinder.seed(0, 32);

    public static void main(String[] args) {
        capacityDoubles();
        seedChanges();
        keysComeInTheOrderOfPlaces();
        newKeyComesLast();
        failedInsertionMovesBeforeGrowing();
        growsAgainInTheSameOrder();
        growsAgainInTheOrderAfterTheFailedInsertion();
        oldKeyFailsInTheNewPart();
        newPartLiesBehindAllParts();
        newPartLiesBehindItsOldPart();
        pushedTogetherWhenThereIsNoRoom();
        pushedTogetherInEachOrder();
        keysKeepTheirPlaces();
        pushedWhenGrowingAgain();
        tooSmallPartIsNoPart();
        oldPartIsGivenUp();
        growsAndIsClearedManyTimes();
        Check.end();
    }

    private static void capacityDoubles() {
        Check.sentence("its capacity c becomes 2 c");
        for (int map = 0; map < 3; map++) {
            Arena x = new Arena();
            for (int capacity = 8; capacity < 128; capacity *= 2) {
                int parts = x.count(1);
                int held = x.size(map);
                int key = 0;
                while (x.about(map, 0) == capacity) {
                    key = held++;
                    Arenas.putAll(x, map, key);
                }
                Check.due("from " + capacity, x.about(map, 0), 2 * capacity);
                Check.due("new parts from " + capacity, x.count(1) - parts, 1);
                Check.due("size", x.size(map), held);
                for (int there = 0; there < held; there++) {
                    int k = there;
                    int m = map;
                    Check.dueOutcome("value", () -> x.get(m, k), Arenas.valueOf(there));
                }
            }
        }
    }

    private static void seedChanges() {
        Check.sentence("its seed s becomes s * 1664525 + 1013904223");
        int[][] seeds = {
            {1, 1015568748, 1586005467, -2129264258, -1267516731},
            {2, 1017233273, 1975575172, 811535379, -1108532650},
            {3, 1018897798, -1929822419, -542632280, -949548569},
        };
        for (int map = 0; map < 3; map++) {
            Arena x = new Arena();
            for (int times = 0; times < 5; times++) {
                Arenas.growTo(x, map, 8 << times);
                Check.due("seed of map " + map + " after " + times, x.about(map, 2), seeds[map][times]);
                int other = (map + 1) % 3;
                Check.due("seed of another map", x.about(other, 2), seeds[other][0]);
            }
        }
    }

    private static void keysComeInTheOrderOfPlaces() {
        Check.sentence("the keys that it held are inserted anew, in the order of the places that they had");
        Arena x = new Arena();
        int[] keys = new int[8];
        for (int place = 7; place >= 0; place--) {
            keys[place] = new KeyFinder().at(1, 8, place).at(SEED_AT_16, 16, place == 7 ? 14 : 3).findOne();
            Arenas.putAll(x, 0, keys[place]);
        }
        int added = new KeyFinder().at(SEED_AT_16, 16, 3).findOne();
        Arenas.putAll(x, 0, added);
        Check.due("places", Arenas.contents(x, 0), Arenas.contentsOf(SEED_AT_16, 0, 0, 0, keys[0], keys[1], keys[2],
                keys[3], keys[4], keys[5], keys[6], added, 0, 0, 0, keys[7], 0));
        Check.due("bases", Arenas.bases(x), "24 8 16");
        Check.due("counts", Arenas.counts(x), "0 1 0");
    }

    private static void newKeyComesLast() {
        Check.sentence("the new key is inserted behind all others");
        Arena x = new Arena();
        int[] due = new int[16];
        for (int place = 0; place < 8; place++) {
            int key = new KeyFinder().at(1, 8, place).at(SEED_AT_16, 16, 9).findOne();
            Arenas.putAll(x, 0, key);
            due[(9 + place) % 16] = key;
        }
        // Were it inserted before the others, it would come to place 10.
        int added = new KeyFinder().at(1, 8, 0).at(SEED_AT_16, 16, 10).findOne();
        due[1] = added;
        Arenas.putAll(x, 0, added);
        Check.due("places", Arenas.contents(x, 0), Arenas.contentsOf(SEED_AT_16, due));
        Check.due("counts", Arenas.counts(x), "0 1 0");
    }

    private static void failedInsertionMovesBeforeGrowing() {
        Check.sentence("(in the order of the places that they have then)");
        Arena x = Arenas.withSixteen();
        int[] at0 = new KeyFinder().at(SEED_AT_16, 16, 0).at(SEED_AT_32, 32, 6).find(8);
        int at8 = new KeyFinder().at(SEED_AT_16, 16, 8).at(SEED_AT_32, 32, 21).findOne();
        int at9 = new KeyFinder().at(SEED_AT_16, 16, 9).at(SEED_AT_32, 32, 21).findOne();
        int added = new KeyFinder().at(SEED_AT_16, 16, 0).at(SEED_AT_32, 32, 21).findOne();
        Arenas.putAll(x, 0, at0);
        Arenas.putAll(x, 0, at8, at9, added);
        int[] due = new int[32];
        System.arraycopy(at0, 0, due, 6, 8);
        due[21] = at9;
        due[22] = at8;
        due[23] = added;
        Check.due("places", Arenas.contents(x, 0), Arenas.contentsOf(SEED_AT_32, due));
        Check.due("counts", Arenas.counts(x), "1 2 0");
        Check.due("bases", Arenas.bases(x), "40 8 16");
    }

    private static void growsAgainInTheSameOrder() {
        Check.sentence("if one fails, it grows again, with the same keys in the same order");
        Arena x = new Arena();
        int[] due = new int[32];
        for (int place = 0; place < 8; place++) {
            // Around the end of 16 places, the order of places there is not the one at first.
            int key = new KeyFinder().at(1, 8, place).at(SEED_AT_16, 16, 10).at(SEED_AT_32, 32, 2).findOne();
            Arenas.putAll(x, 0, key);
            due[2 + place] = key;
        }
        due[20] = new KeyFinder().at(SEED_AT_16, 16, 10).at(SEED_AT_32, 32, 20).findOne();
        Arenas.putAll(x, 0, due[20]);
        Check.due("places", Arenas.contents(x, 0), Arenas.contentsOf(SEED_AT_32, due));
        Check.due("bases", Arenas.bases(x), "24 8 16");
        Check.due("counts", Arenas.counts(x), "0 2 0");
    }

    private static void growsAgainInTheOrderAfterTheFailedInsertion() {
        Arena x = Arenas.withSixteen();
        int seedAt64 = KeyFinder.seed(0, 64);
        int[] at3 = new KeyFinder().at(SEED_AT_16, 16, 3).at(SEED_AT_32, 32, 27).at(seedAt64, 64, 27).find(8);
        int at11 = new KeyFinder().at(SEED_AT_16, 16, 11).at(SEED_AT_32, 32, 11).at(seedAt64, 64, 8).findOne();
        int at12 = new KeyFinder().at(SEED_AT_16, 16, 12).at(SEED_AT_32, 32, 14).at(seedAt64, 64, 8).findOne();
        int added = new KeyFinder().at(SEED_AT_16, 16, 3).at(SEED_AT_32, 32, 27).at(seedAt64, 64, 8).findOne();
        Arenas.putAll(x, 0, at3);
        Arenas.putAll(x, 0, at11, at12);
        // It fails in 16 places, where at11 comes behind at12, and in 32 places, where at11 lies before at12.
        Arenas.putAll(x, 0, added);
        int[] due = new int[64];
        System.arraycopy(at3, 0, due, 27, 8);
        due[8] = at12;
        due[9] = at11;
        due[10] = added;
        Check.due("places after moves", Arenas.contents(x, 0), Arenas.contentsOf(seedAt64, due));
        Check.due("counts after moves", Arenas.counts(x), "1 3 0");
        Check.due("bases after moves", Arenas.bases(x), "40 8 16");
    }

    private static void oldKeyFailsInTheNewPart() {
        Arena x = Arenas.withSixteen();
        int[] keys = new int[17];
        for (int home = 0; home < 16; home++) {
            int later = home >= 7 && home <= 11 ? 3 : 9;
            keys[home] = new KeyFinder().at(SEED_AT_16, 16, home).at(SEED_AT_32, 32, later).findOne();
        }
        keys[16] = new KeyFinder().at(SEED_AT_32, 32, 30).findOne();
        Arenas.putAll(x, 0, keys);
        Check.due("old key fails: capacity", x.about(0, 0), 64);
        Check.due("old key fails: seed", x.about(0, 2), KeyFinder.seed(0, 64));
        Check.due("old key fails: bases", Arenas.bases(x), "40 8 16");
        Check.due("old key fails: new parts", x.count(1), 3);
        Check.due("old key fails: size", x.size(0), 17);
        for (int key : keys) {
            Check.due("old key fails: value", x.get(0, key), Arenas.valueOf(key));
        }
    }

    private static Arena doubled(int... maps) {
        Arena x = new Arena();
        for (int map : maps) {
            Arenas.growTo(x, map, 2 * x.about(map, 0));
        }
        return x;
    }

    private static void newPartLiesBehindAllParts() {
        Check.sentence("The new part lies behind all parts, if the arena has room there");
        Check.due("behind another part", Arenas.bases(doubled(0)), "24 8 16");
        Check.due("behind the one that grew", Arenas.bases(doubled(0, 1)), "24 40 16");
        Check.due("not in the 16 slots that are free before them", Arenas.bases(doubled(0, 1, 2)), "24 40 56");
        Check.due("not in the 24 slots before them", Arenas.bases(doubled(0, 1, 2, 0)), "72 40 56");
        Check.due("up to slot 247", Arenas.bases(doubled(0, 0, 0, 1, 0, 1)), "88 216 0");
        Check.due("up to slot 255", Arenas.bases(doubled(0, 0, 0, 0, 1, 1)), "80 224 8");
        Check.due("pushes", doubled(0, 0, 0, 0, 1, 1).count(2), 1);
    }

    private static void newPartLiesBehindItsOldPart() {
        Check.due("its own part is the last one", Arenas.bases(doubled(2)), "0 8 24");
        Check.due("again", Arenas.bases(doubled(2, 2)), "0 8 40");
        Check.due("a third time", Arenas.bases(doubled(2, 2, 2)), "0 8 72");
        Check.due("pushes", doubled(2, 2, 2).count(2), 0);
    }

    private static void pushedTogetherWhenThereIsNoRoom() {
        Check.sentence("otherwise PUSHED TOGETHER");
        Arena x = doubled(2, 2, 2);
        Check.due("not yet", x.count(2) + ", " + Arenas.bases(x), "0, 0 8 72");
        // 136 .. 263 would be the new part.
        Arenas.growTo(x, 2, 128);
        Check.due("now", x.count(2) + ", " + Arenas.bases(x), "1, 0 8 80");
        Arena other = doubled(0, 0, 0, 1, 0, 1);
        Check.due("not again yet", other.count(2) + ", " + Arenas.bases(other), "1, 88 216 0");
        // 248 .. 263 would be the new part of another map.
        Arenas.growTo(other, 2, 16);
        Check.due("now again", other.count(2) + ", " + Arenas.bases(other), "2, 8 136 168");
    }

    private static void pushedTogetherInEachOrder() {
        Check.sentence("all parts ..., in the order of their bases, are moved down so that the first one begins at 0 "
                + "and each other one where the one before it ends ..., and the new part lies behind them");
        pushes("72 136 152", "96 64 80", 0, 0, 0, 1, 2, 0);
        pushes("0 72 136", "0 88 72", 1, 1, 1, 2, 1);
        pushes("0 8 72", "0 8 80", 2, 2, 2, 2);
        pushes("72 152 136", "96 80 64", 0, 0, 0, 2, 1, 0);
        pushes("0 72 16", "0 80 8", 1, 1, 1, 1);
        pushes("0 136 72", "0 72 88", 2, 2, 2, 1, 2);
        pushes("72 8 136", "88 0 72", 0, 0, 0, 2, 0);
        pushes("136 72 152", "64 96 80", 1, 1, 1, 0, 2, 1);
        pushes("24 8 88", "8 0 88", 0, 2, 2, 2, 2);
        pushes("72 8 16", "80 0 8", 0, 0, 0, 0);
        pushes("152 72 136", "80 96 64", 1, 1, 1, 2, 0, 1);
        pushes("136 8 72", "72 0 88", 2, 2, 2, 0, 2);
        pushes("72 136 16", "88 72 0", 0, 0, 0, 1, 0);
        pushes("24 88 16", "8 88 0", 0, 1, 1, 1, 1);
        pushes("136 152 72", "64 80 96", 2, 2, 2, 0, 1, 2);
        pushes("88 72 16", "88 8 0", 0, 0, 1, 0, 0);
        pushes("136 72 16", "72 88 0", 1, 1, 1, 0, 1);
        pushes("152 136 72", "80 64 96", 2, 2, 2, 1, 0, 2);
    }

    /** Maps double in this order, and the last time parts are pushed together: the bases before it and after it. */
    private static void pushes(String before, String after, int... doubling) {
        int last = doubling.length - 1;
        int map = doubling[last];
        Arena x = doubled(java.util.Arrays.copyOf(doubling, last));
        Check.due("bases before", Arenas.bases(x), before);
        Check.due("pushes before", x.count(2), 0);
        String others = Arenas.contents(x, (map + 1) % 3) + "; " + Arenas.contents(x, (map + 2) % 3);
        int held = x.size(map);
        Arenas.growTo(x, map, 2 * x.about(map, 0));
        Check.due("bases after " + before, Arenas.bases(x), after);
        Check.due("pushes after " + before, x.count(2), 1);
        Check.due("other maps after " + before,
                Arenas.contents(x, (map + 1) % 3) + "; " + Arenas.contents(x, (map + 2) % 3), others);
        for (int key = 0; key < held; key++) {
            int k = key;
            Check.dueOutcome("value of " + key, () -> x.get(map, k), Arenas.valueOf(key));
        }
    }

    private static void keysKeepTheirPlaces() {
        Check.sentence("(keys keep their places)");
        // All 64 places of map 0 are taken when its part moves down from slot 72 to slot 8.
        Arena x = doubled(0, 0, 0, 1);
        Arenas.removeAll(x, 0);
        Keys keys = new Keys(KeyFinder.seed(0, 64), 64);
        for (int home = 0; home < 64; home++) {
            Arenas.putAll(x, 0, keys.at(home));
        }
        String full = Arenas.contents(x, 0);
        Check.due("bases before", Arenas.bases(x), "72 136 16");
        Arenas.growTo(x, 1, 64);
        Check.due("bases between", Arenas.bases(x), "72 184 16");
        Arenas.growTo(x, 2, 16);
        Check.due("bases after", Arenas.bases(x), "8 72 136");
        Check.due("a full map, moved down by its own length", Arenas.contents(x, 0), full);
        Arena y = doubled(0, 0, 0, 1, 0, 1);
        String longOne = Arenas.contents(y, 0);
        String lastOne = Arenas.contents(y, 1);
        Arenas.growTo(y, 2, 16);
        Check.due("bases", Arenas.bases(y), "8 136 168");
        Check.due("moved down by less than its length", Arenas.contents(y, 0), longOne);
        Check.due("moved down by more than its length", Arenas.contents(y, 1), lastOne);
    }

    /** Nine keys that map 1 can't hold at capacities 16 and 32, as all have one home there, but can at 64. */
    private static int[] nineFor64() {
        int[] nine = new int[9];
        int[] found = new KeyFinder().at(KeyFinder.seed(1, 16), 16, 9).at(KeyFinder.seed(1, 32), 32, 0).find(400);
        int home = KeyFinder.home(found[0], KeyFinder.seed(1, 64), 64);
        int same = 0;
        for (int key : found) {
            boolean isSame = KeyFinder.home(key, KeyFinder.seed(1, 64), 64) == home;
            if (isSame && same < 8) {
                nine[same++] = key;
            } else if (!isSame) {
                nine[8] = key;
            }
        }
        return nine;
    }

    private static void pushedWhenGrowingAgain() {
        Check.sentence("(that of this map being the one that it had at first)");
        Arena x = doubled(0, 0, 0, 0, 1);
        Check.due("bases before", Arenas.bases(x), "80 208 8");
        Arenas.removeAll(x, 1);
        int[] nine = nineFor64();
        int parts = x.count(1);
        int pushes = x.count(2);
        String others = Arenas.contents(x, 0) + "; " + Arenas.contents(x, 2);
        Arenas.putAll(x, 1, nine);
        Check.due("capacity", x.about(1, 0), 64);
        Check.due("new parts", x.count(1) - parts, 2);
        // The first one had room, 224 .. 255, the second one had not.
        Check.due("pushes", x.count(2) - pushes, 1);
        Check.due("bases", Arenas.bases(x), "8 152 0");
        Check.due("others", Arenas.contents(x, 0) + "; " + Arenas.contents(x, 2), others);
        for (int key : nine) {
            Check.dueOutcome("value", () -> x.get(1, key), Arenas.valueOf(key));
        }
    }

    private static void tooSmallPartIsNoPart() {
        Check.sentence("When it grows again, the new part that was too small is no part any more.");
        Arena x = doubled(1);
        Check.due("bases before", Arenas.bases(x), "0 24 16");
        Arenas.removeAll(x, 1);
        Arenas.putAll(x, 1, nineFor64());
        Check.due("the new part lies where the other one was", Arenas.bases(x), "0 40 16");
        Check.due("capacity", x.about(1, 0), 64);
        Check.due("counts", Arenas.counts(x), "0 3 0");
    }

    private static void oldPartIsGivenUp() {
        Check.sentence("When all keys are there, the part that the map had is given up.");
        Arena x = doubled(0, 0, 0, 0);
        // Slots 16 .. 79 were map 0's part before.
        Check.due("not pushed together with the others at once", Arenas.bases(x), "80 0 8");
        Arenas.growTo(x, 1, 32);
        Check.due("bases before", Arenas.bases(x), "80 224 8");
        Arenas.growTo(x, 2, 16);
        Check.due("but no part the next time", Arenas.bases(x), "8 136 168");
        Check.due("capacities", Arenas.capacities(x), "128 32 16");
    }

    private static void growsAndIsClearedManyTimes() {
        Arena x = new Arena();
        for (int time = 1; time <= 20; time++) {
            Arenas.growTo(x, 1, 32);
            Check.due("new parts", x.count(1), 2 * time);
            x.clear(1);
        }
        Check.due("bases after many times", Arenas.bases(x), "0 80 8");
        Check.due("pushes after many times", x.count(2), 2);
    }
}
