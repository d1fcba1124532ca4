import java.util.ArrayList;
import java.util.HashSet;
import java.util.List;
import java.util.Set;

/**
 * All that a cache answers at one time. A test makes a copy, changes in it what a call is to change, and asks that
 * the cache looks just so behind the call: so what is not to change is asked as well.
 */
final class Look {
    static final int STORE = 16;
    static final int R1 = 1;
    static final int R2 = 2;
    static final int G1 = 3;
    static final int G2 = 4;

    final int capacity;
    final int[] says = new int[STORE];
    final int[] stored = new int[STORE];
    final int[] slot = new int[STORE];
    final int[] named = new int[STORE];
    final int[] epoch = new int[STORE];
    final List<List<Integer>> lists = new ArrayList<>();
    int target;
    int drained;
    boolean hit;
    int present;

    private Look(int capacity) {
        this.capacity = capacity;
    }

    /** Asks in some 140 calls. The object is used up by it, since only a flush tells the present epoch. */
    static Look last(EpochCache x, int capacity) {
        Look look = new Look(capacity);
        for (int block = 0; block < STORE; block++) {
            look.says[block] = x.says(block);
            look.stored[block] = x.stored(block);
            look.slot[block] = x.slot(block);
            look.named[block] = x.named(block);
            look.epoch[block] = x.epoch(block);
        }
        for (int list = R1; list <= G2; list++) {
            look.lists.add(Play.members(x, list));
        }
        look.target = x.target();
        look.drained = x.drained();
        look.hit = x.hit();
        look.dueTold(x);
        look.present = x.flush() - 1;
        return look;
    }

    /** list() and free() tell nothing that the other questions do not tell. */
    private void dueTold(EpochCache x) {
        Check.due("free()", x.free(), freeSlots().size());
        for (int block = 0; block < STORE; block++) {
            Check.due("list(" + block + ")", x.list(block), listOf(block));
        }
    }

    Look copy() {
        Look copy = new Look(capacity);
        copyTo(copy.says, says);
        copyTo(copy.stored, stored);
        copyTo(copy.slot, slot);
        copyTo(copy.named, named);
        copyTo(copy.epoch, epoch);
        lists.forEach(list -> copy.lists.add(new ArrayList<>(list)));
        copy.target = target;
        copy.drained = drained;
        copy.hit = hit;
        copy.present = present;
        return copy;
    }

    private static void copyTo(int[] to, int[] from) {
        System.arraycopy(from, 0, to, 0, STORE);
    }

    // What the look tells

    List<Integer> list(int list) {
        return lists.get(list - 1);
    }

    int listOf(int block) {
        for (int list = R1; list <= G2; list++) {
            if (list(list).contains(block)) {
                return list;
            }
        }
        return 0;
    }

    boolean isHeld(int block) {
        return slot[block] != -1;
    }

    boolean isDirty(int block) {
        return epoch[block] != -1;
    }

    List<Integer> held() {
        List<Integer> held = new ArrayList<>();
        for (int block = 0; block < STORE; block++) {
            if (isHeld(block)) {
                held.add(block);
            }
        }
        return held;
    }

    int dirtyCount() {
        int count = 0;
        for (int block = 0; block < STORE; block++) {
            count += isDirty(block) ? 1 : 0;
        }
        return count;
    }

    List<Integer> freeSlots() {
        Set<Integer> taken = new HashSet<>();
        for (int block = 0; block < STORE; block++) {
            taken.add(slot[block]);
            taken.add(named[block]);
        }
        List<Integer> free = new ArrayList<>();
        for (int number = 0; number < 2 * capacity; number++) {
            if (!taken.contains(number)) {
                free.add(number);
            }
        }
        return free;
    }

    // What a call is to change

    void writeJournal() {
        copyTo(named, slot);
    }

    void flush() {
        writeJournal();
        present++;
    }

    void drain(int block) {
        stored[block] = says[block];
        epoch[block] = -1;
        drained++;
    }

    void drainThrough(int last) {
        for (int block = 0; block < STORE; block++) {
            if (isDirty(block) && epoch[block] <= last) {
                drain(block);
            }
        }
    }

    void holdNoLonger(int block) {
        slot[block] = -1;
        epoch[block] = -1;
        says[block] = stored[block];
    }

    void holdNone() {
        for (int block = 0; block < STORE; block++) {
            holdNoLonger(block);
        }
    }

    void emptyLists() {
        lists.forEach(List::clear);
        target = 0;
    }

    // Comparing

    void dueIn(Look other) {
        for (int block = 0; block < STORE; block++) {
            Check.due("says(" + block + ")", other.says[block], says[block]);
            Check.due("stored(" + block + ")", other.stored[block], stored[block]);
            Check.due("slot(" + block + ")", other.slot[block], slot[block]);
            Check.due("named(" + block + ")", other.named[block], named[block]);
            Check.due("epoch(" + block + ")", other.epoch[block], epoch[block]);
        }
        Check.due("R1 R2 G1 G2", other.lists.toString(), lists.toString());
        Check.due("target()", other.target, target);
        Check.due("drained()", other.drained, drained);
        Check.due("hit()", other.hit, hit);
        Check.due("the present epoch", other.present, present);
    }
}
