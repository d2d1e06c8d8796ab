/** Keys for one map at one capacity: given out by their homes, each of them once. */
final class Keys {
    private final int seed;
    private final int capacity;
    private final int[] given;

    Keys(int seed, int capacity) {
        this.seed = seed;
        this.capacity = capacity;
        this.given = new int[capacity];
        java.util.Arrays.fill(given, 999);
    }

    /** The home may lie behind the last place; that goes around. */
    int at(int home) {
        int place = home % capacity;
        do {
            given[place]++;
        } while (KeyFinder.home(given[place], seed, capacity) != place);
        return given[place];
    }

    int[] at(int home, int n) {
        int[] keys = new int[n];
        for (int i = 0; i < n; i++) {
            keys[i] = at(home);
        }
        return keys;
    }
}
