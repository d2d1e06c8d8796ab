import java.util.ArrayList;
import java.util.List;

/** Finds keys by the homes that the document gives them, without asking the class under test. */
final class KeyFinder {
    private final List<int[]> conditions = new ArrayList<>();

    static int home(int key, int seed, int capacity) {
        long spread = Integer.toUnsignedLong((key ^ seed) * -1640531535);
        return (int) (spread / 512 % capacity);
    }

    /** The seed after growing so many times. */
    static int later(int seed, int times) {
        int later = seed;
        for (int i = 0; i < times; i++) {
            later = later * 1664525 + 1013904223;
        }
        return later;
    }

    KeyFinder at(int seed, int capacity, int home) {
        conditions.add(new int[] {seed, capacity, home});
        return this;
    }

    /** The least n keys from 1000 on that meet all conditions. */
    int[] find(int n) {
        int[] found = new int[n];
        int count = 0;
        for (int key = 1000; key < 1 << 24; key++) {
            if (meetsAll(key)) {
                found[count++] = key;
            }
            if (count == n) {
                return found;
            }
        }
        throw new IllegalStateException("no such keys");
    }

    int findOne() {
        return find(1)[0];
    }

    private boolean meetsAll(int key) {
        for (int[] condition : conditions) {
            if (home(key, condition[0], condition[1]) != condition[2]) {
                return false;
            }
        }
        return true;
    }
}
