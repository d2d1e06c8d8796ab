/** What "Terms" says of inserting: a test for each sentence, with keys that are chosen by their homes. */
public final class InsertingTest {
    private static final int SEED = KeyFinder.seed(0, 16);

    public static void main(String[] args) {
        firstFreePlaceFromItsHomeOn();
        for (int capacity = 8; capacity <= 128; capacity *= 2) {
            goesAroundOnce(capacity);
            failsWhenThereIsNoFreePlace(capacity);
        }
        for (int behind = 0; behind < 8; behind++) {
            needsNoMoveBelowEight(behind);
        }
        for (int behind = 8; behind < 16; behind++) {
            movesFromEightOn(behind);
        }
        for (int shift = 0; shift < 16; shift++) {
            eachOneThatMayMove(shift);
            twoMoves(shift);
        }
        firstOfTwoThatMayMove();
        eightBeforeIsTooFar();
        nothingBehindTheFreePlaceIsMoved();
        movedKeyKeepsItsValue();
        failsAfterAMove();
        Check.end();
    }

    private static int[] shifted(int shift, int... keysByPlace) {
        int[] shifted = new int[16];
        for (int place = 0; place < keysByPlace.length; place++) {
            shifted[(place + shift) % 16] = keysByPlace[place];
        }
        return shifted;
    }

    private static void firstFreePlaceFromItsHomeOn() {
        Check.sentence("f is the first free place from its home on");
        Arena x = Arenas.withSixteen();
        Keys keys = new Keys(SEED, 16);
        int[] at5 = keys.at(5, 4);
        int at4 = keys.at(4);
        Arenas.putAll(x, 0, at5[0]);
        Check.due("its home is free", x.distance(0, at5[0]), 0);
        Arenas.putAll(x, 0, at5[1]);
        Check.due("the next one is, and one before it", x.distance(0, at5[1]), 1);
        Arenas.putAll(x, 0, at5[2], at4);
        x.remove(0, at5[1]);
        Arenas.putAll(x, 0, at5[3]);
        Check.due("the first one of several", Arenas.contents(x, 0),
                Arenas.contentsOf(SEED, shifted(4, at4, at5[0], at5[3], at5[2])));
        Check.due("moves", x.count(0), 0);
    }

    /** All places but the one just before this home hold keys that are at their homes. */
    private static Arena fullButBefore(int home, int capacity, Keys keys) {
        Arena x = Arenas.empty(0, capacity);
        for (int i = 0; i < capacity - 1; i++) {
            Arenas.putAll(x, 0, keys.at(home + i));
        }
        Check.due("size", x.size(0), capacity - 1);
        Check.due("capacity", x.about(0, 0), capacity);
        return x;
    }

    private static void goesAroundOnce(int capacity) {
        Check.sentence("(going around once)");
        for (int home : new int[] {0, 1, capacity / 2, capacity - 1}) {
            Keys keys = new Keys(KeyFinder.seed(0, capacity), capacity);
            Arena x = fullButBefore(home, capacity, keys);
            int moves = x.count(0);
            int behind = capacity - 1;
            int due = 0;
            while (behind >= 8) {
                // Each key is at its home, so that the one 7 places before the free one moves first.
                behind -= 7;
                due++;
            }
            int added = keys.at(home);
            Arenas.putAll(x, 0, added);
            Check.due("capacity " + capacity + " stays", x.about(0, 0), capacity);
            Check.due("distance in " + capacity, x.distance(0, added), behind);
            Check.due("moves in " + capacity, x.count(0) - moves, due);
            Check.due("size in " + capacity, x.size(0), capacity);
        }
    }

    private static void failsWhenThereIsNoFreePlace(int capacity) {
        Check.sentence("if there is none, it FAILS");
        Keys keys = new Keys(KeyFinder.seed(0, capacity), capacity);
        Arena x = fullButBefore(0, capacity, keys);
        int parts = x.count(1);
        Arenas.putAll(x, 0, keys.at(capacity - 1));
        Check.due("the last free place", x.size(0) + " of " + x.about(0, 0), capacity + " of " + capacity);
        Check.due("no new part for it", x.count(1), parts);
        String full = Arenas.contents(x, 0);
        String counts = Arenas.counts(x);
        int added = keys.at(3);
        if (capacity == 128) {
            Check.dueOutcome("one more", () -> x.put(0, added, 1), "ArithmeticException");
            Check.due("all as before", Arenas.contents(x, 0) + Arenas.counts(x), full + counts);
        } else {
            Arenas.putAll(x, 0, added);
            Check.due("one more", x.size(0) + " of " + x.about(0, 0), capacity + 1 + " of " + 2 * capacity);
            Check.due("a new part for it", x.count(1), parts + 1);
        }
    }

    /** Places from 0 on are taken by keys that could be moved; as many as the new key's place is behind its home. */
    private static void needsNoMoveBelowEight(int behind) {
        Check.sentence("As long as f is 8 or more places behind the home");
        Arena x = Arenas.withSixteen();
        Keys keys = new Keys(SEED, 16);
        int[] due = new int[16];
        for (int home = 0; home < behind; home++) {
            due[home] = keys.at(home);
            Arenas.putAll(x, 0, due[home]);
        }
        due[behind] = keys.at(0);
        Arenas.putAll(x, 0, due[behind]);
        Check.due(behind + " behind", Arenas.contents(x, 0), Arenas.contentsOf(SEED, due));
        Check.due("counts", Arenas.counts(x), "0 1 0");
    }

    private static void movesFromEightOn(int behind) {
        Arena x = Arenas.withSixteen();
        Keys keys = new Keys(SEED, 16);
        int[] due = new int[16];
        for (int home = 0; home < behind; home++) {
            due[home] = keys.at(home);
            Arenas.putAll(x, 0, due[home]);
        }
        int added = keys.at(0);
        Arenas.putAll(x, 0, added);
        int free = behind;
        int moves = 0;
        while (free >= 8) {
            due[free] = due[free - 7];
            free -= 7;
            moves++;
        }
        due[free] = added;
        Check.due(behind + " behind", Arenas.contents(x, 0), Arenas.contentsOf(SEED, due));
        Check.due("counts", Arenas.counts(x), moves + " 1 0");
    }

    /** Places 0 .. 7 of 16 get keys of these homes, and one of home 0 comes; all homes are that much further on. */
    private static Arena ninth(int shift, int[] homes, int[] due) {
        Arena x = Arenas.withSixteen();
        Keys keys = new Keys(SEED, 16);
        for (int place = 0; place < 8; place++) {
            due[place] = keys.at(homes[place] + shift);
            Arenas.putAll(x, 0, due[place]);
        }
        due[8] = keys.at(shift);
        Arenas.putAll(x, 0, due[8]);
        return x;
    }

    /** What was at this place lies at place 8 now, and the new key where it was. */
    private static void dueMovedFrom(String what, Arena x, int shift, int[] due, int from) {
        int added = due[8];
        due[8] = due[from];
        due[from] = added;
        Check.due(what, Arenas.contents(x, 0), Arenas.contentsOf(SEED, shifted(shift, due)));
        Check.due(what + ": counts", Arenas.counts(x), "1 1 0");
    }

    private static void eachOneThatMayMove(int shift) {
        Check.sentence("for d = 7, 6, .. 1, h being d places before f, and then for i = 0, 1, .. d - 1");
        for (int d = 7; d >= 1; d--) {
            for (int i = 0; i < d; i++) {
                int[] homes = new int[8];
                homes[8 - d + i] = 8 - d;
                int[] due = new int[9];
                Arena x = ninth(shift, homes, due);
                dueMovedFrom("shift " + shift + " d " + d + " i " + i, x, shift, due, 8 - d + i);
                Check.due("bits of h", x.bits(0, (8 - d + shift) % 16), 1 << d);
            }
        }
    }

    private static void firstOfTwoThatMayMove() {
        Check.sentence("the first one of these for which bit i of h is 1 is taken");
        for (int one = 1; one < 8; one++) {
            for (int other = one + 1; other < 8; other++) {
                for (int homeOfOne = 1; homeOfOne <= one; homeOfOne++) {
                    for (int homeOfOther = 1; homeOfOther <= other; homeOfOther++) {
                        firstOfTwo(one, homeOfOne, other, homeOfOther);
                    }
                }
            }
        }
    }

    /** The home that is farther before the free place comes first; of one home, the place that is nearer to it. */
    private static void firstOfTwo(int one, int homeOfOne, int other, int homeOfOther) {
        int[] homes = new int[8];
        homes[one] = homeOfOne;
        homes[other] = homeOfOther;
        int[] due = new int[9];
        Arena x = ninth(11, homes, due);
        dueMovedFrom("homes " + homeOfOne + " and " + homeOfOther, x, 11, due, homeOfOne <= homeOfOther ? one : other);
    }

    private static void eightBeforeIsTooFar() {
        Check.sentence("if there is none, it fails");
        Arena x = ninth(3, new int[8], new int[9]);
        Check.due("counts", Arenas.counts(x), "0 2 0");
        Check.due("it grew", x.about(0, 0), 32);
    }

    private static void nothingBehindTheFreePlaceIsMoved() {
        Check.sentence("for i = 0, 1, .. d - 1");
        for (int d = 1; d < 7; d++) {
            for (int i = d + 1; i < 8; i++) {
                Arena x = Arenas.withSixteen();
                Keys keys = new Keys(SEED, 16);
                Arenas.putAll(x, 0, keys.at(0, 8));
                int[] between = new int[i - d];
                for (int place = 0; place < i - d; place++) {
                    between[place] = keys.at(8 + place);
                }
                Arenas.putAll(x, 0, between);
                Arenas.putAll(x, 0, keys.at(8 - d));
                x.remove(0, between[0]);
                Check.due("bits of h", x.bits(0, 8 - d), 1 << i);
                Arenas.putAll(x, 0, keys.at(0));
                Check.due("d " + d + " i " + i, Arenas.counts(x), "0 2 0");
            }
        }
    }

    private static void twoMoves(int shift) {
        Check.sentence("what is at h + i is MOVED to f, and f is h + i then, which is free");
        Arena x = Arenas.withSixteen();
        Keys keys = new Keys(SEED, 16);
        int[] at0 = keys.at(shift, 8);
        int at1 = keys.at(shift + 1);
        int at8 = keys.at(shift + 8);
        int at9 = keys.at(shift + 9);
        Arenas.putAll(x, 0, at0[0], at0[1], at0[2], at0[3], at0[4], at0[5], at0[6], at1, at8, at9, at0[7]);
        Check.due("two moves, shift " + shift, Arenas.contents(x, 0), Arenas.contentsOf(SEED, shifted(shift,
                at0[0], at0[1], at0[2], at0[3], at0[4], at0[5], at0[6], at0[7], at1, at9, at8)));
        Check.due("counts", Arenas.counts(x), "2 1 0");
    }

    private static void movedKeyKeepsItsValue() {
        Check.sentence("Then the key comes to f.");
        int[] homes = {0, 0, 0, 0, 0, 0, 0, 7};
        int[] keys = new int[9];
        Arena x = ninth(0, homes, keys);
        Check.due("place of the new key", x.key(0, 7), keys[8]);
        Check.due("its distance and value", x.distance(0, keys[8]) + " " + x.get(0, keys[8]),
                "7 " + Arenas.valueOf(keys[8]));
        Check.due("place of the one that moved", x.key(0, 8), keys[7]);
        Check.due("its distance and value then", x.distance(0, keys[7]) + " " + x.get(0, keys[7]),
                "1 " + Arenas.valueOf(keys[7]));
        Check.due("bits", x.bits(0, 0) + " " + x.bits(0, 7), "255 2");
        Check.due("size", x.size(0), 9);
    }

    private static void failsAfterAMove() {
        Check.sentence("(One that fails may have moved others.)");
        int seed = KeyFinder.seed(2, 32);
        Arena x = Arenas.withCapacities(128, 64, 32);
        Arenas.removeAll(x, 2);
        Keys keys = new Keys(seed, 32);
        int[] at0 = keys.at(0, 8);
        int at8 = keys.at(8);
        int at9 = keys.at(9);
        int added = keys.at(0);
        Arenas.putAll(x, 2, at0);
        Arenas.putAll(x, 2, at8, at9);
        int moves = x.count(0);
        // Growing is refused, so that the moves of the insertion that failed can be seen.
        Check.dueOutcome("put", () -> x.put(2, added, 1), "ArithmeticException");
        int[] due = new int[32];
        System.arraycopy(at0, 0, due, 0, 8);
        due[9] = at9;
        due[10] = at8;
        Check.due("places", Arenas.contents(x, 2), Arenas.contentsOf(seed, due));
        Check.due("moves", x.count(0) - moves, 1);
    }
}
