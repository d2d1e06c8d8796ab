import java.util.ArrayList;
import java.util.List;

/** Finds keys by the homes that the document gives them, without asking the class under test. */
final class KeyFinder {
    private final List<int[]> conditions = new ArrayList<>();

    static int home(int key, int seed, int capacity) {
        long spread = Integer.toUnsignedLong((key ^ seed) * -1640531535);
        return (int) (spread / 512 % capacity);
    }

    /** The seed after growing so many times. */
    static int later(int seed, int times) {
        int later = seed;
        for (int i = 0; i < times; i++) {
            later = later * 1664525 + 1013904223;
        }
        return later;
    }

    /** The seed of a map that came to a capacity without being cleared. */
    static int seed(int map, int capacity) {
        return later(map + 1, Integer.numberOfTrailingZeros(capacity / 8));
    }

    /** Homes depend on the lower 16 bits of a key alone, so that no growing ever parts these keys. */
    static int[] inseparable(int n) {
        int[] keys = new int[n];
        for (int i = 0; i < n; i++) {
            keys[i] = 1000 + (i << 16);
        }
        return keys;
    }

    KeyFinder at(int seed, int capacity, int home) {
        conditions.add(new int[] {seed, capacity, home});
        return this;
    }

    /** The least n keys from 1000 on that meet all conditions. */
    int[] find(int n) {
        int[] found = new int[n];
        int count = 0;
        for (int key = 1000; key < 1 << 24; key++) {
            if (meetsAll(key)) {
                found[count++] = key;
            }
            if (count == n) {
                return found;
            }
        }
        throw new IllegalStateException("no such keys");
    }

    int findOne() {
        return find(1)[0];
    }

    private boolean meetsAll(int key) {
        for (int[] condition : conditions) {
            if (home(key, condition[0], condition[1]) != condition[2]) {
                return false;
            }
        }
        return true;
    }
}
