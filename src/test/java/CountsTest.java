import java.util.Arrays;

/** What "Terms" says of the counts: a test for each sentence. */
public final class CountsTest {
    private static final String REFUSED = "ArithmeticException";

    public static void main(String[] args) {
        movesOfInsertionsThatSucceed();
        movesOfInsertionsThatFail();
        movesWhileGrowing();
        movesInAPartThatWasTooSmall();
        pushingIsNoMove();
        newParts();
        newPartsThatWereTooSmall();
        pushes();
        fromTheBeginningOn();
        Check.end();
    }

    private static void movesOfInsertionsThatSucceed() {
        Check.sentence("0 moves of keys by inserting");
        Arena x = Arenas.withSixteen();
        Keys keys = new Keys(KeyFinder.seed(0, 16), 16);
        Arenas.putAll(x, 0, keys.at(0, 7));
        Arenas.putAll(x, 0, keys.at(7));
        Check.due("none so far", x.count(0), 0);
        Arenas.putAll(x, 0, keys.at(0));
        Check.due("one", x.count(0), 1);
        Arena y = Arenas.withSixteen();
        for (int home = 0; home < 15; home++) {
            Arenas.putAll(y, 0, keys.at(home));
        }
        Check.due("none of many", y.count(0), 0);
        Arenas.putAll(y, 0, keys.at(0));
        Check.due("two for one key", y.count(0), 2);
    }

    private static void movesOfInsertionsThatFail() {
        Check.sentence("(also of those that failed)");
        Arena x = Arenas.withSixteen();
        Keys keys = new Keys(KeyFinder.seed(0, 16), 16);
        Arenas.putAll(x, 0, keys.at(0, 8));
        Arenas.putAll(x, 0, keys.at(8), keys.at(9));
        Check.due("before", Arenas.counts(x), "0 1 0");
        Arenas.putAll(x, 0, keys.at(0));
        Check.due("after", Arenas.counts(x), "1 2 0");
        Check.due("it grew", x.about(0, 0), 32);
    }

    private static void movesWhileGrowing() {
        Check.sentence("the keys that it held are inserted anew");
        Arena x = new Arena();
        int seed = KeyFinder.seed(2, 16);
        int[] due = new int[16];
        for (int place = 0; place < 8; place++) {
            due[place] = new KeyFinder().at(3, 8, place).at(seed, 16, place == 7 ? 7 : 0).findOne();
            Arenas.putAll(x, 2, due[place]);
        }
        int added = new KeyFinder().at(seed, 16, 0).find(20)[19];
        Arenas.putAll(x, 2, added);
        due[8] = due[7];
        due[7] = added;
        Check.due("places", Arenas.contents(x, 2), Arenas.contentsOf(seed, due));
        Check.due("counts", Arenas.counts(x), "1 1 0");
    }

    private static void movesInAPartThatWasTooSmall() {
        Check.sentence("(also of those that failed)");
        int seed16 = KeyFinder.seed(2, 16);
        int seed32 = KeyFinder.seed(2, 32);
        Arena x = Arenas.empty(2, 16);
        int[] homes = {0, 0, 0, 0, 0, 0, 0, 0, 8, 9, 20, 20, 20, 20, 20, 20};
        for (int place = 0; place < 16; place++) {
            int key = new KeyFinder().at(seed16, 16, place).at(seed32, 32, homes[place]).findOne();
            Arenas.putAll(x, 2, key);
        }
        Check.due("before", Arenas.counts(x), "0 1 0");
        // All 16 places are taken. In 32, what is at place 8 moves to 10, and nothing can move to place 8.
        int added = new KeyFinder().at(seed32, 32, 0).find(50)[49];
        Arenas.putAll(x, 2, added);
        Check.due("capacity", x.about(2, 0), 64);
        Check.due("after", Arenas.counts(x), "1 3 0");
    }

    private static void pushingIsNoMove() {
        Check.sentence("0 moves of keys by inserting");
        Arena x = Arenas.withCapacities(8, 8, 64);
        Arenas.putAll(x, 0, 1, 2, 3);
        Arenas.putAll(x, 1, 1, 2, 3);
        Arenas.removeAll(x, 2);
        Keys keys = new Keys(KeyFinder.seed(2, 64), 64);
        Arenas.putAll(x, 2, keys.at(0, 8));
        int moves = x.count(0);
        Arenas.putAll(x, 2, keys.at(0));
        Check.due("pushes", x.count(2), 1);
        Check.due("moves", x.count(0), moves);
    }

    private static void newParts() {
        Check.sentence("1 how many new parts were made by growing");
        Arena x = new Arena();
        Check.due("at first", x.count(1), 0);
        for (int key = 0; key < 8; key++) {
            Arenas.putAll(x, 0, new KeyFinder().at(1, 8, key).findOne());
        }
        Check.due("a full map", x.count(1), 0);
        Arenas.putAll(x, 0, -1);
        Check.due("one more key", x.count(1), 1);
        Arenas.growTo(x, 1, 16);
        Check.due("another map", x.count(1), 2);
        Arenas.growTo(x, 1, 128);
        Check.due("three times more", x.count(1), 5);
    }

    private static void newPartsThatWereTooSmall() {
        Check.sentence("(also those that were too small)");
        int[] nine = KeyFinder.inseparable(9);
        int[] capacities = {8, 16, 32, 64, 128};
        for (int i = 0; i < capacities.length; i++) {
            Arena x = Arenas.empty(0, capacities[i]);
            int parts = x.count(1);
            Check.due("parts so far", parts, i);
            Arenas.putAll(x, 0, Arrays.copyOf(nine, 8));
            Check.due("eight keys", x.count(1), parts);
            Check.dueOutcome("nine keys", () -> x.put(0, nine[8], 1), REFUSED);
            Check.due("all that were tried", x.count(1), 4);
        }
    }

    private static void pushes() {
        Check.sentence("2 how often parts were pushed together");
        Arena x = Arenas.withCapacities(64, 8, 8);
        Check.due("not yet", Arenas.counts(x), x.count(0) + " 3 0");
        Arenas.growTo(x, 0, 128);
        Check.due("once for three parts", x.count(2), 1);
        Arenas.growTo(x, 1, 32);
        Check.due("not for parts that have room", x.count(2), 1);
        Arenas.growTo(x, 2, 16);
        Check.due("twice", x.count(2), 2);
    }

    private static void fromTheBeginningOn() {
        Check.sentence("COUNTS, from the beginning on");
        Arena x = Arenas.withCapacities(128, 32, 16);
        Arenas.growTo(x, 2, 32);
        for (int key = 1000; x.count(0) < 3; key++) {
            Arenas.putAll(x, 0, key);
        }
        String counts = Arenas.counts(x);
        Check.due("none is 0", x.count(0) > 0 && x.count(1) > 0 && x.count(2) > 0, true);
        x.put(0, 1000, 5);
        Check.due("after a known key", Arenas.counts(x), counts);
        x.remove(0, 1000);
        Check.due("after remove", Arenas.counts(x), counts);
        for (int map = 0; map < 3; map++) {
            x.clear(map);
            Check.due("after clear", Arenas.counts(x), counts);
        }
        Check.due("another object's", Arenas.counts(new Arena()), "0 0 0");
    }
}
