import java.util.ArrayList;
import java.util.List;

/**
 * A HopArena for tests that ask more than 512 times. The document promises nothing about an object after its 512th
 * call, so that before the next one a new object is brought to the same state and goes on.
 */
final class Arena {
    private static final int PROMISED_CALLS = 512;

    /** A call that may change the object; also one that throws may. */
    private interface Change {
        void make(HopArena object);
    }

    private final List<Change> changes = new ArrayList<>();
    private HopArena object = new HopArena();
    private int calls = 0;
    private int objects = 1;

    private HopArena ready() {
        if (calls == PROMISED_CALLS) {
            startAnew();
        }
        calls++;
        return object;
    }

    /** How many objects there were. A new one does not show what a call changed that should have changed nothing. */
    int objects() {
        return objects;
    }

    /** Goes on with a new object now, so that as many calls as can be are left. */
    void startAnew() {
        if (changes.size() >= PROMISED_CALLS) {
            throw new IllegalStateException("more changes than calls are promised for");
        }
        object = new HopArena();
        objects++;
        calls = changes.size();
        for (Change change : changes) {
            Check.outcome(() -> {
                change.make(object);
                return "";
            });
        }
    }

    private HopArena readyFor(Change change) {
        HopArena ready = ready();
        changes.add(change);
        return ready;
    }

    boolean put(int map, int key, int value) {
        return readyFor(x -> x.put(map, key, value)).put(map, key, value);
    }

    int get(int map, int key) {
        return ready().get(map, key);
    }

    int remove(int map, int key) {
        return readyFor(x -> x.remove(map, key)).remove(map, key);
    }

    boolean has(int map, int key) {
        return ready().has(map, key);
    }

    int size(int map) {
        return ready().size(map);
    }

    int clear(int map) {
        return readyFor(x -> x.clear(map)).clear(map);
    }

    int about(int map, int what) {
        return ready().about(map, what);
    }

    int home(int map, int key) {
        return ready().home(map, key);
    }

    int distance(int map, int key) {
        return ready().distance(map, key);
    }

    int bits(int map, int place) {
        return ready().bits(map, place);
    }

    int next(int map, int place) {
        return ready().next(map, place);
    }

    int key(int map, int place) {
        return ready().key(map, place);
    }

    int count(int what) {
        return ready().count(what);
    }
}
