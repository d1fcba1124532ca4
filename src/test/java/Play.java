import java.util.ArrayList;
import java.util.List;

/** Brings caches into a state, and reads the whole state back through the calls of the face. */
final class Play {
    /** What is no block: next to the ends, far off, and the ends of an int. */
    static final int[] NO_BLOCKS = {
        -1, -2, -16, 16, 17, 31, 32, 256, 1 << 16, 1 << 30,
        Integer.MIN_VALUE, Integer.MIN_VALUE + 1, Integer.MIN_VALUE + 15,
        Integer.MAX_VALUE, Integer.MAX_VALUE - 1, Integer.MAX_VALUE - 15};

    private static final int STORE = 16;

    private Play() {
    }

    static EpochCache reads(int blocks, int... reads) {
        EpochCache x = new EpochCache(blocks);
        readAll(x, reads);
        return x;
    }

    static void readAll(EpochCache x, int... blocks) {
        for (int block : blocks) {
            x.read(block);
        }
    }

    /** R1 is 3, 4; R2 is 1; G1 is 2; G2 is 0; the target is 1; block 3 is dirty, and the journal names 0, 1 and 3. */
    static EpochCache withAllLists() {
        EpochCache x = reads(3, 0, 0, 1, 2);
        x.write(3, 30);
        x.read(1);
        x.flush();
        x.read(4);
        return x;
    }

    /** Block 15 is in slot 0, dirty with the present epoch 1; the journal has it in slot 1. */
    static EpochCache withNoFreeSlot() {
        EpochCache x = new EpochCache(1);
        x.write(15, 1);
        x.flush();
        x.write(15, 2);
        return x;
    }

    /** R1, R2, G1 and G2, each from its oldest block: "[2] [1] [] [0]". */
    static String lists(EpochCache x) {
        StringBuilder text = new StringBuilder();
        for (int list = 1; list <= 4; list++) {
            text.append(list == 1 ? "" : " ").append(members(x, list));
        }
        return text.toString();
    }

    static List<Integer> members(EpochCache x, int list) {
        List<Integer> members = new ArrayList<>();
        for (int k = 0; k < STORE && x.member(list, k) != -1; k++) {
            members.add(x.member(list, k));
        }
        return members;
    }

    static int held(EpochCache x) {
        int count = 0;
        for (int block = 0; block < STORE; block++) {
            count += x.slot(block) == -1 ? 0 : 1;
        }
        return count;
    }

    static int named(EpochCache x) {
        int count = 0;
        for (int block = 0; block < STORE; block++) {
            count += x.named(block) == -1 ? 0 : 1;
        }
        return count;
    }

    /** All that can be asked without a change, in some 140 calls. */
    static String view(EpochCache x) {
        StringBuilder text = new StringBuilder();
        text.append("hit ").append(x.hit()).append(", target ").append(x.target());
        text.append(", free ").append(x.free()).append(", drained ").append(x.drained());
        text.append(", lists ").append(lists(x));
        for (int block = 0; block < STORE; block++) {
            text.append("; ").append(block).append(": ").append(viewOf(x, block));
        }
        return text.toString();
    }

    private static String viewOf(EpochCache x, int block) {
        return x.says(block) + " " + x.stored(block) + " " + x.slot(block) + " " + x.named(block)
            + " " + x.epoch(block) + " " + x.list(block);
    }

    /** No block is held, the lists are empty, the target is 0, and the journal names none. */
    static void dueEmpty(EpochCache x, int slots) {
        Check.due("held", held(x), 0);
        Check.due("lists", lists(x), "[] [] [] []");
        Check.due("target()", x.target(), 0);
        Check.due("named", named(x), 0);
        Check.due("free()", x.free(), slots);
        for (int block = 0; block < STORE; block++) {
            Check.due("epoch(" + block + ")", x.epoch(block), -1);
            Check.due("list(" + block + ")", x.list(block), 0);
        }
    }
}
