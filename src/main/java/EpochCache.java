/**
 * A cache for a slow store that keeps writes back. Its document, with the numbered promises
 * and the terms that the names here are taken from, is ../shared/DOC.md.
 */
public final class EpochCache {
    private static final int BLOCKS = 16;
    private static final int MOST_HELD = 7;
    private static final int NONE = -1;
    private static final int CLEAN = -1;

    private final int capacity;
    private final int[] store;
    private final int[] numbers;
    private final Placement held;
    private final Placement journal;
    private final BlockList r1;
    private final BlockList r2;
    private final BlockList g1;
    private final BlockList g2;
    private final BlockList[] lists;
    private int goal;
    private int presentEpoch;
    private int drains;
    private boolean latestWasHit;

    public EpochCache(int blocks) {
        capacity = Math.max(1, Math.min(blocks, MOST_HELD));
        store = new int[BLOCKS];
        numbers = new int[2 * capacity];
        held = new Placement(2 * capacity);
        journal = new Placement(2 * capacity);
        r1 = new BlockList();
        r2 = new BlockList();
        g1 = new BlockList();
        g2 = new BlockList();
        lists = new BlockList[] {r1, r2, g1, g2};
    }

    public int read(int block) {
        if (!isBlock(block)) {
            return 0;
        }
        access(block);
        return numberOf(block);
    }

    public int write(int block, int number) {
        if (!isBlock(block)) {
            return NONE;
        }
        access(block);
        return place(block, number, true);
    }

    public int flush() {
        endEpoch();
        return presentEpoch;
    }

    public int tick() {
        // No dirty block is ever ahead of the present epoch, so all others end one before it.
        int slot = held.firstDirty(presentEpoch - 1);
        if (slot == NONE) {
            return NONE;
        }
        drain(slot);
        return held.blocks[slot];
    }

    public int detach() {
        int count = drainThrough(presentEpoch);
        held.clear();
        forgetLists();
        journal.become(held);
        return count;
    }

    public int crash() {
        held.become(journal);
        forgetLists();
        for (int slot = 0; slot < held.blocks.length; slot++) {
            if (held.blocks[slot] != NONE) {
                r1.add(held.blocks[slot]);
            }
        }
        return r1.size();
    }

    public int lose() {
        int count = held.dirtyCount();
        held.clear();
        journal.clear();
        forgetLists();
        presentEpoch = 0;
        return count;
    }

    public boolean hit() {
        return latestWasHit;
    }

    public int says(int block) {
        return isBlock(block) ? numberOf(block) : 0;
    }

    public int stored(int block) {
        return isBlock(block) ? store[block] : 0;
    }

    public int slot(int block) {
        return held.slotOf(block);
    }

    public int named(int block) {
        return journal.slotOf(block);
    }

    public int epoch(int block) {
        int slot = held.slotOf(block);
        return slot == NONE ? NONE : held.epochs[slot];
    }

    public int list(int block) {
        for (int i = 0; i < lists.length; i++) {
            if (lists[i].has(block)) {
                return i + 1;
            }
        }
        return 0;
    }

    public int member(int list, int k) {
        if (list < 1 || list > lists.length) {
            return NONE;
        }
        return lists[list - 1].at(k);
    }

    public int target() {
        return goal;
    }

    public int free() {
        int count = 0;
        for (int slot = 0; slot < numbers.length; slot++) {
            if (isFree(slot)) {
                count++;
            }
        }
        return count;
    }

    public int drained() {
        return drains;
    }

    private static boolean isBlock(int block) {
        return block >= 0 && block < BLOCKS;
    }

    private int numberOf(int block) {
        int slot = held.slotOf(block);
        return slot == NONE ? store[block] : numbers[slot];
    }

    private void access(int block) {
        latestWasHit = r1.has(block) || r2.has(block);
        if (latestWasHit) {
            bringInto(r2, block);
            return;
        }
        if (g1.has(block)) {
            goal = Math.min(capacity, goal + step(g2.size(), g1.size()));
            replaceFor(block);
            bringInto(r2, block);
        } else if (g2.has(block)) {
            goal = Math.max(0, goal - step(g1.size(), g2.size()));
            replaceFor(block);
            bringInto(r2, block);
        } else {
            makeRoomForStranger(block);
            bringInto(r1, block);
        }
        place(block, store[block], false);
    }

    /** How far the target moves for a block of a list of ghosts with `own` blocks. */
    private static int step(int other, int own) {
        return own < 1 ? 1 : Math.max(1, other / own);
    }

    private void makeRoomForStranger(int block) {
        int recent = r1.size() + g1.size();
        int all = recent + r2.size() + g2.size();
        if (recent == capacity) {
            if (g1.size() > 0) {
                g1.remove(g1.at(0));
                replaceFor(block);
            } else {
                int oldest = r1.at(0);
                giveUp(oldest);
                r1.remove(oldest);
            }
        } else if (all >= capacity) {
            if (all == 2 * capacity) {
                g2.remove(g2.at(0));
            }
            replaceFor(block);
        }
    }

    private void replaceFor(int block) {
        boolean fromR1 = r1.size() > goal || r1.size() == goal && g2.has(block);
        if (r1.size() > 0 && fromR1) {
            int oldest = r1.at(0);
            giveUp(oldest);
            bringInto(g1, oldest);
        } else if (r2.size() > 0) {
            int oldest = r2.at(0);
            giveUp(oldest);
            bringInto(g2, oldest);
        }
    }

    private void giveUp(int block) {
        int slot = held.slotOf(block);
        if (slot == NONE) {
            return;
        }
        int epoch = held.epochs[slot];
        if (epoch != CLEAN) {
            if (epoch == presentEpoch) {
                endEpoch();
            }
            drainThrough(epoch);
        }
        held.empty(slot);
    }

    private void bringInto(BlockList list, int block) {
        for (int i = 0; i < lists.length; i++) {
            lists[i].remove(block);
        }
        list.add(block);
    }

    private void forgetLists() {
        for (int i = 0; i < lists.length; i++) {
            lists[i].clear();
        }
        goal = 0;
    }

    /** Puts a block into a new slot; its old slot is not free while the new one is looked for. */
    private int place(int block, int number, boolean dirty) {
        int slot = newSlot();
        if (slot == NONE) {
            return NONE;
        }
        int old = held.slotOf(block);
        if (old != NONE) {
            held.empty(old);
        }
        held.blocks[slot] = block;
        held.epochs[slot] = dirty ? presentEpoch : CLEAN;
        numbers[slot] = number;
        return slot;
    }

    /** Never NONE: behind a flush the held and the named slots are the same, and at most half of all. */
    private int newSlot() {
        int slot = leastFree();
        if (slot != NONE) {
            return slot;
        }
        endEpoch();
        return leastFree();
    }

    private int leastFree() {
        for (int slot = 0; slot < numbers.length; slot++) {
            if (isFree(slot)) {
                return slot;
            }
        }
        return NONE;
    }

    private boolean isFree(int slot) {
        return held.blocks[slot] == NONE && journal.blocks[slot] == NONE;
    }

    private void endEpoch() {
        journal.become(held);
        presentEpoch++;
    }

    private int drainThrough(int epoch) {
        for (int count = 0; count < BLOCKS; count++) {
            int slot = held.firstDirty(epoch);
            if (slot == NONE) {
                return count;
            }
            drain(slot);
        }
        return BLOCKS;
    }

    private void drain(int slot) {
        store[held.blocks[slot]] = numbers[slot];
        held.epochs[slot] = CLEAN;
        drains++;
    }

    /** Which block is in each slot, and with which epoch it is dirty: as it is now, or as the journal has it. */
    private static final class Placement {
        final int[] blocks;
        final int[] epochs;

        Placement(int slots) {
            blocks = new int[slots];
            epochs = new int[slots];
            for (int slot = 0; slot < slots; slot++) {
                blocks[slot] = NONE;
                epochs[slot] = CLEAN;
            }
        }

        void empty(int slot) {
            blocks[slot] = NONE;
            epochs[slot] = CLEAN;
        }

        void clear() {
            for (int slot = 0; slot < blocks.length; slot++) {
                empty(slot);
            }
        }

        void become(Placement other) {
            for (int slot = 0; slot < blocks.length; slot++) {
                blocks[slot] = other.blocks[slot];
                epochs[slot] = other.epochs[slot];
            }
        }

        int slotOf(int block) {
            // An empty slot bears NONE, which a caller's wrong block number could equal.
            if (block == NONE) {
                return NONE;
            }
            for (int slot = 0; slot < blocks.length; slot++) {
                if (blocks[slot] == block) {
                    return slot;
                }
            }
            return NONE;
        }

        int dirtyCount() {
            int count = 0;
            for (int slot = 0; slot < blocks.length; slot++) {
                if (epochs[slot] != CLEAN) {
                    count++;
                }
            }
            return count;
        }

        /** The slot of the first dirty block among those with this epoch or a lesser one. */
        int firstDirty(int epoch) {
            int first = NONE;
            for (int slot = 0; slot < blocks.length; slot++) {
                if (epochs[slot] == CLEAN || epochs[slot] > epoch) {
                    continue;
                }
                if (first == NONE
                    || epochs[slot] < epochs[first]
                    || epochs[slot] == epochs[first] && blocks[slot] < blocks[first]) {
                    first = slot;
                }
            }
            return first;
        }
    }

    /** Blocks from the oldest, at 0, to the youngest. */
    private static final class BlockList {
        private final int[] blocks;
        private int size;

        BlockList() {
            blocks = new int[BLOCKS];
        }

        int size() {
            return size;
        }

        int at(int k) {
            return k >= 0 && k < size ? blocks[k] : NONE;
        }

        boolean has(int block) {
            for (int k = 0; k < size; k++) {
                if (blocks[k] == block) {
                    return true;
                }
            }
            return false;
        }

        void add(int block) {
            if (size < BLOCKS) {
                blocks[size] = block;
                size++;
            }
        }

        void remove(int block) {
            int kept = 0;
            for (int k = 0; k < size; k++) {
                if (blocks[k] != block) {
                    blocks[kept] = blocks[k];
                    kept++;
                }
            }
            size = kept;
        }

        void clear() {
            size = 0;
        }
    }
}
