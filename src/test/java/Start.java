import java.util.Random;

/**
 * A state that can be reached again and again: a mixed run of calls, told by its seed, on a new object each time,
 * since what an object answers is promised for 512 calls only.
 */
final class Start {
    private static final int MOST_CALLS = 200;

    final int seed;
    final int capacity;
    private final int[] kinds;
    private final int[] blocks;
    private final int[] numbers;

    Start(int seed) {
        this.seed = seed;
        Random random = new Random(seed);
        capacity = 1 + seed % 7;
        int range = 1 + random.nextInt(Look.STORE);
        int calls = random.nextInt(MOST_CALLS);
        kinds = random.ints(calls, 0, 100).toArray();
        blocks = random.ints(calls, 0, range).toArray();
        numbers = random.ints(calls, -500, 500).toArray();
    }

    EpochCache make() {
        EpochCache x = new EpochCache(capacity);
        for (int call = 0; call < kinds.length; call++) {
            play(x, kinds[call], blocks[call], numbers[call]);
        }
        return x;
    }

    Look look() {
        return Look.last(make(), capacity);
    }

    private static void play(EpochCache x, int kind, int block, int number) {
        if (kind < 44) {
            x.read(block);
        } else if (kind < 82) {
            x.write(block, number);
        } else if (kind < 89) {
            x.flush();
        } else if (kind < 96) {
            x.tick();
        } else if (kind < 98) {
            x.crash();
        } else if (kind == 98) {
            x.detach();
        } else {
            x.lose();
        }
    }
}
