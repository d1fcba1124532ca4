/** For each promise of the document its ordinary inputs, its edges and its wrong inputs. */
public final class PromiseTest {
    public static void main(String[] args) {
        newObject();
        newObjectHoldsAtMostItsBlocks();
        read();
        readOfNoBlock();
        write();
        writeWithoutFreeSlot();
        readWithoutFreeSlot();
        writeOfNoBlock();
        flush();
        tick();
        tickTakesLeastEpochFirst();
        detach();
        crash();
        crashBringsBackWhatWasDrained();
        crashThenGoesOn();
        lose();
        hit();
        says();
        stored();
        giveUpOfPresentEpochFlushes();
        giveUpDrainsLesserEpochsOnly();
        giveUpOfCleanDrainsNothing();
        slot();
        named();
        epoch();
        list();
        oldestIsForgotten();
        emptyR1GivesNothing();
        member();
        target();
        targetStaysInItsBounds();
        free();
        drained();
        Check.finish("PromiseTest");
    }

    private static void due(String what, long got, long want) {
        Check.due(what, got, want);
    }

    /** R1 = 2, R2 = 1, G1 is empty, G2 = 0, the target is 1; all are clean. */
    private static EpochCache withTargetOne() {
        EpochCache x = new EpochCache(2);
        Play.readAll(x, 0, 0, 1, 2, 1);
        return x;
    }

    // Promise 1

    private static void newObject() {
        int[] blocks = {Integer.MIN_VALUE, -1, 0, 1, 2, 3, 6, 7, 8, Integer.MAX_VALUE};
        int[] slots = {2, 2, 2, 2, 4, 6, 12, 14, 14, 14};
        for (int i = 0; i < blocks.length; i++) {
            due("1: slots of EpochCache(" + blocks[i] + ")", new EpochCache(blocks[i]).free(), slots[i]);
        }
        EpochCache x = new EpochCache(3);
        for (int block = 0; block < 16; block++) {
            due("1: slot", x.slot(block), -1);
            due("1: named", x.named(block), -1);
            due("1: epoch", x.epoch(block), -1);
            due("1: list", x.list(block), 0);
            due("1: says", x.says(block), 0);
            due("1: stored", x.stored(block), 0);
        }
        for (int list = 1; list <= 4; list++) {
            Check.dueList("1", x, list);
        }
        due("1: target", x.target(), 0);
        due("1: drained", x.drained(), 0);
        due("1: flush", x.flush(), 1);
    }

    private static void newObjectHoldsAtMostItsBlocks() {
        int[] blocks = {-3, 0, 1, 4, 7, 8};
        int[] held = {1, 1, 1, 4, 7, 7};
        for (int i = 0; i < blocks.length; i++) {
            EpochCache x = new EpochCache(blocks[i]);
            for (int block = 0; block < held[i]; block++) {
                x.read(block);
            }
            due("1: slot(0) with all held", x.slot(0), 0);
            x.read(15);
            due("1: slot(0) with one more", x.slot(0), -1);
            due("1: slot(15)", x.slot(15) >= 0 ? 1 : 0, 1);
        }
    }

    // Promises 2 and 3

    private static void read() {
        EpochCache x = new EpochCache(1);
        due("2: read of the store", x.read(3), 0);
        x.write(3, Integer.MIN_VALUE);
        due("2: read of a slot", x.read(3), Integer.MIN_VALUE);
        due("2: the store is behind", x.stored(3), 0);
        due("2: read of another", x.read(15), 0);
        due("2: read of what was given up", x.read(3), Integer.MIN_VALUE);
        due("2: clean behind a miss", x.epoch(3), -1);
        EpochCache y = new EpochCache(2);
        Play.readAll(y, 0, 0, 1);
        due("2: a miss takes the least free slot", y.slot(1), 1);
        Check.dueList("2: a miss comes into R1", y, 1, 1);
        Check.dueList("2: a hit comes into R2", y, 2, 0);
    }

    private static void readOfNoBlock() {
        for (int block : Play.NO_BLOCKS) {
            EpochCache x = new EpochCache(1);
            x.read(0);
            x.read(0);
            due("2: read(" + block + ")", x.read(block), 0);
            due("2: nothing done, hit", x.hit() ? 1 : 0, 1);
            due("2: nothing done, list", x.list(0), 2);
            due("2: nothing done, slot", x.slot(0), 0);
            due("2: nothing done, free", x.free(), 1);
        }
    }

    private static void write() {
        EpochCache x = new EpochCache(2);
        due("3: write goes to another slot than the miss", x.write(4, 44), 1);
        due("3: the slot of the miss is free again", x.free(), 3);
        due("3: write of a hit", x.write(4, Integer.MAX_VALUE), 0);
        due("3: says", x.says(4), Integer.MAX_VALUE);
        due("3: dirty", x.epoch(4), 0);
        due("3: not in the store", x.stored(4), 0);
        x.flush();
        due("3: the present epoch", x.write(0, -1), 2);
        due("3: the present epoch", x.epoch(0), 1);
        due("3: the other keeps its epoch", x.epoch(4), 0);
        due("3: a write of a dirty block", x.write(4, 5), 1);
        due("3: a write of a dirty block", x.epoch(4), 1);
        Check.dueList("3: a write is an access", x, 1, 0);
        Check.dueList("3: a write is an access", x, 2, 4);
    }

    private static void writeWithoutFreeSlot() {
        EpochCache x = new EpochCache(1);
        due("3: write", x.write(0, 5), 1);
        x.flush();
        due("3: write beside the named slot", x.write(0, 6), 0);
        due("3: none is free", x.free(), 0);
        due("3: flushed for a slot", x.write(0, 7), 1);
        due("3: the epoch as it is then", x.epoch(0), 2);
        due("3: the journal has the slot before", x.named(0), 0);
        due("3: flushed once", x.flush(), 3);
        x.write(0, 8);
        due("3: crash brings what was named", x.crash(), 1);
        due("3: crash brings what was named", x.says(0), 7);
    }

    private static void readWithoutFreeSlot() {
        EpochCache x = new EpochCache(1);
        x.write(0, 5);
        x.flush();
        x.write(0, 6);
        due("2: none is free", x.free(), 0);
        due("2: read with no free slot", x.read(1), 0);
        // Block 0 is flushed as it is given up, which names slot 0 and makes slot 1 free.
        due("2: slot", x.slot(1), 1);
        due("2: a block that comes is not named yet", x.named(1), -1);
        due("2: one that went is named", x.named(0), 0);
        due("2: it is drained", x.stored(0), 6);
        due("2: flushed once", x.flush(), 3);
        due("2: one that went is named no longer", x.named(0), -1);
        due("2: named", x.named(1), 1);
    }

    private static void writeOfNoBlock() {
        for (int block : Play.NO_BLOCKS) {
            EpochCache x = new EpochCache(1);
            x.read(0);
            x.read(0);
            due("3: write(" + block + ", 9)", x.write(block, 9), -1);
            due("3: nothing done, hit", x.hit() ? 1 : 0, 1);
            due("3: nothing done, list", x.list(0), 2);
            due("3: nothing done, epoch", x.epoch(0), -1);
            due("3: nothing done, free", x.free(), 1);
        }
    }

    // Promise 4

    private static void flush() {
        EpochCache x = new EpochCache(3);
        x.write(0, 1);
        x.read(1);
        due("4: flush", x.flush(), 1);
        due("4: names a dirty block", x.named(0), 1);
        due("4: names a clean block", x.named(1), 0);
        due("4: drains nothing", x.stored(0), 0);
        due("4: leaves it dirty", x.epoch(0), 0);
        due("4: flush with nothing new", x.flush(), 2);
        x.write(0, 2);
        due("4: a write is not named", x.named(0), 1);
        due("4: flush", x.flush(), 3);
        due("4: names the new slot", x.named(0), 2);
        due("4: the old slot is free", x.free(), 4);
        x.crash();
        due("4: names the epoch", x.epoch(0), 2);
        due("4: names it as clean", x.epoch(1), -1);
    }

    // Promise 5

    private static void tick() {
        EpochCache x = new EpochCache(3);
        due("5: nothing is dirty", x.tick(), -1);
        x.write(2, 20);
        x.write(1, 99);
        due("5: the present epoch stays back", x.tick(), -1);
        x.flush();
        x.write(0, 5);
        due("5: least number", x.tick(), 1);
        due("5: the store gets it", x.stored(1), 99);
        due("5: clean", x.epoch(1), -1);
        due("5: still held", x.says(1), 99);
        due("5: the other not yet", x.stored(2), 0);
        due("5: next", x.tick(), 2);
        due("5: the present epoch stays back", x.tick(), -1);
        due("5: the present epoch stays back", x.stored(0), 0);
        x.flush();
        due("5: block 0", x.tick(), 0);
        due("5: block 0", x.stored(0), 5);
        due("5: none is left", x.tick(), -1);
    }

    private static void tickTakesLeastEpochFirst() {
        EpochCache x = new EpochCache(3);
        x.write(2, 20);
        x.flush();
        x.write(0, 1);
        x.flush();
        due("5: least epoch", x.tick(), 2);
        due("5: then the next", x.tick(), 0);
        EpochCache y = new EpochCache(2);
        y.write(1, 10);
        y.write(2, 20);
        y.flush();
        due("5: of one epoch the least number", y.tick(), 1);
    }

    // Promise 6

    private static void detach() {
        EpochCache x = withTargetOne();
        x.write(1, 11);
        x.flush();
        x.write(2, 22);
        due("6: how many were drained", x.detach(), 2);
        due("6: stored(1)", x.stored(1), 11);
        due("6: stored(2), of the present epoch", x.stored(2), 22);
        due("6: target", x.target(), 0);
        due("6: free", x.free(), 4);
        due("6: drained", x.drained(), 2);
        for (int block = 0; block < 3; block++) {
            due("6: slot", x.slot(block), -1);
            due("6: named", x.named(block), -1);
            due("6: epoch", x.epoch(block), -1);
            due("6: list", x.list(block), 0);
        }
        for (int list = 1; list <= 4; list++) {
            Check.dueList("6", x, list);
        }
        due("6: nothing to bring back", x.crash(), 0);
        due("6: the epoch stays", x.flush(), 2);
        due("6: again", x.detach(), 0);
        due("6: read", x.read(2), 22);
    }

    // Promise 7

    private static void crash() {
        EpochCache x = new EpochCache(3);
        x.write(5, 50);
        x.write(3, 30);
        x.write(7, 70);
        x.write(7, 71);
        x.flush();
        // The slots are 7: 0, 5: 1, 3: 2; by age or by number the order would be another one.
        x.write(5, 51);
        x.read(4);
        due("7: crash", x.crash(), 3);
        Check.dueList("7: by slots", x, 1, 7, 5, 3);
        Check.dueList("7", x, 2);
        Check.dueList("7", x, 3);
        Check.dueList("7", x, 4);
        due("7: slot(5)", x.slot(5), 1);
        due("7: as it was", x.says(5), 50);
        due("7: epoch(5)", x.epoch(5), 0);
        due("7: not named, not held", x.slot(4), -1);
        due("7: the journal stays", x.named(7), 0);
        due("7: again", x.crash(), 3);
        due("7: none in a new object", new EpochCache(4).crash(), 0);
    }

    private static void crashBringsBackWhatWasDrained() {
        EpochCache x = withTargetOne();
        x.write(1, 11);
        due("7: the epoch before", x.flush(), 1);
        due("7: tick", x.tick(), 1);
        due("7: target before", x.target(), 1);
        due("7: crash", x.crash(), 2);
        due("7: target", x.target(), 0);
        due("7: dirty again, as the journal says", x.epoch(1), 0);
        due("7: clean, as the journal says", x.epoch(2), -1);
        due("7: no ghosts", x.list(0), 0);
        due("7: all in R1", x.list(1), 1);
        due("7: tick again", x.tick(), 1);
        due("7: the epoch stays", x.flush(), 2);
    }

    private static void crashThenGoesOn() {
        EpochCache x = new EpochCache(2);
        x.write(0, 1);
        x.write(1, 2);
        x.flush();
        x.crash();
        // R1 is full and G1 is empty: the oldest of R1 is given up and forgotten, and both are drained.
        x.read(2);
        due("7: oldest given up", x.slot(0), -1);
        due("7: in no list", x.list(0), 0);
        due("7: drained", x.drained(), 2);
        due("7: stored", x.stored(1), 2);
        due("7: the journal still has it", x.crash(), 2);
        due("7: says", x.says(0), 1);
    }

    // Promise 8

    private static void lose() {
        EpochCache x = withTargetOne();
        x.write(1, 11);
        x.flush();
        x.tick();
        x.write(2, 22);
        x.flush();
        x.write(1, 12);
        due("8: dirty blocks", x.lose(), 2);
        due("8: the store stays", x.stored(1), 11);
        due("8: the store stays", x.says(2), 0);
        due("8: drained stays", x.drained(), 1);
        due("8: free", x.free(), 4);
        due("8: target", x.target(), 0);
        for (int block = 0; block < 3; block++) {
            due("8: slot", x.slot(block), -1);
            due("8: named", x.named(block), -1);
            due("8: epoch", x.epoch(block), -1);
            due("8: list", x.list(block), 0);
        }
        due("8: crash brings nothing", x.crash(), 0);
        due("8: the epoch is 0", x.flush(), 1);
        due("8: again", x.lose(), 0);
        x.write(0, 9);
        due("8: the epoch is 0", x.epoch(0), 0);
    }

    // Promise 9

    private static void hit() {
        EpochCache x = new EpochCache(2);
        Check.due("9: before the first", x.hit(), false);
        x.read(0);
        Check.due("9: a miss", x.hit(), false);
        x.write(0, 1);
        Check.due("9: a hit in R1", x.hit(), true);
        x.read(0);
        Check.due("9: a hit in R2", x.hit(), true);
        x.says(1);
        x.flush();
        x.tick();
        Check.due("9: only of reads and writes", x.hit(), true);
        x.write(1, 1);
        Check.due("9: a write of a miss", x.hit(), false);
        x.read(1);
        x.detach();
        Check.due("9: the latest one was a hit", x.hit(), true);
        EpochCache y = new EpochCache(2);
        Play.readAll(y, 0, 0, 1, 2);
        due("9: 1 is in G1", y.list(1), 3);
        y.read(1);
        Check.due("9: a ghost is a miss", y.hit(), false);
        due("9: 0 is in G2", y.list(0), 4);
        y.read(1);
        y.read(0);
        Check.due("9: a ghost is a miss", y.hit(), false);
    }

    // Promises 10 and 11

    private static void says() {
        EpochCache x = new EpochCache(1);
        x.write(15, -7);
        due("10: held", x.says(15), -7);
        due("10: not held", x.says(0), 0);
        due("10: no access", x.list(15), 1);
        due("10: no access", x.slot(0), -1);
        x.read(0);
        due("10: from the store", x.says(15), -7);
        for (int block : Play.NO_BLOCKS) {
            due("10: says(" + block + ")", x.says(block), 0);
        }
    }

    private static void stored() {
        EpochCache x = new EpochCache(1);
        x.write(15, -7);
        due("11: before it is drained", x.stored(15), 0);
        x.flush();
        due("11: flushed, not drained", x.stored(15), 0);
        x.tick();
        due("11: drained", x.stored(15), -7);
        x.write(15, 8);
        due("11: written again", x.stored(15), -7);
        for (int block : Play.NO_BLOCKS) {
            due("11: stored(" + block + ")", x.stored(block), 0);
        }
    }

    private static void giveUpOfPresentEpochFlushes() {
        EpochCache x = new EpochCache(2);
        x.write(0, 10);
        x.write(1, 20);
        x.read(2);
        due("11: the one given up", x.stored(0), 10);
        due("11: all of its epoch", x.stored(1), 20);
        due("11: clean", x.epoch(1), -1);
        due("11: the journal names what went", x.named(0), 1);
        due("11: and what stayed", x.named(1), 2);
        due("11: but not what came", x.named(2), -1);
        due("11: flushed once", x.flush(), 2);
    }

    private static void giveUpDrainsLesserEpochsOnly() {
        EpochCache x = new EpochCache(3);
        x.write(1, 10);
        x.flush();
        x.write(0, 20);
        x.flush();
        x.write(2, 30);
        x.read(1);
        // R1 is 0, 2 and R2 is 1: 0 goes with epoch 1, which takes 1 with epoch 0 along.
        x.read(3);
        due("11: given up", x.stored(0), 20);
        due("11: of a lesser epoch", x.stored(1), 10);
        due("11: of a greater epoch", x.stored(2), 0);
        due("11: still dirty", x.epoch(2), 2);
        due("11: drained", x.drained(), 2);
        due("11: not flushed", x.flush(), 3);
    }

    private static void giveUpOfCleanDrainsNothing() {
        EpochCache x = new EpochCache(2);
        x.read(0);
        x.write(1, 20);
        x.read(2);
        due("11: given up", x.slot(0), -1);
        due("11: nothing drained", x.drained(), 0);
        due("11: nothing drained", x.stored(1), 0);
        due("11: not flushed", x.flush(), 1);
    }

    // Promises 12, 13 and 14

    private static void slot() {
        EpochCache x = new EpochCache(2);
        x.read(0);
        x.read(15);
        due("12: slot(0)", x.slot(0), 0);
        due("12: slot(15)", x.slot(15), 1);
        due("12: not held", x.slot(1), -1);
        x.read(1);
        due("12: held no longer", x.slot(0), -1);
        due("12: a slot that was given back", x.slot(1), 0);
        for (int block : Play.NO_BLOCKS) {
            due("12: slot(" + block + ")", x.slot(block), -1);
        }
    }

    private static void named() {
        EpochCache x = new EpochCache(2);
        x.read(15);
        due("13: not before it is written", x.named(15), -1);
        x.flush();
        due("13: named", x.named(15), 0);
        due("13: not held, not named", x.named(0), -1);
        x.write(15, 3);
        due("13: as it was written", x.named(15), 0);
        Play.readAll(x, 1, 2, 3);
        due("13: held no longer, still named", x.named(15), 0);
        for (int block : Play.NO_BLOCKS) {
            due("13: named(" + block + ")", x.named(block), -1);
        }
    }

    private static void epoch() {
        EpochCache x = new EpochCache(2);
        x.read(15);
        due("14: clean", x.epoch(15), -1);
        x.flush();
        x.flush();
        x.write(15, 1);
        due("14: dirty", x.epoch(15), 2);
        x.flush();
        x.read(15);
        due("14: a read leaves it", x.epoch(15), 2);
        x.tick();
        due("14: drained", x.epoch(15), -1);
        due("14: not held", x.epoch(0), -1);
        for (int block : Play.NO_BLOCKS) {
            due("14: epoch(" + block + ")", x.epoch(block), -1);
        }
    }

    // Promises 15 and 16

    private static void list() {
        EpochCache x = withTargetOne();
        due("15: in R1", x.list(2), 1);
        due("15: in R2", x.list(1), 2);
        due("15: in G2", x.list(0), 4);
        due("15: in none", x.list(3), 0);
        EpochCache y = new EpochCache(2);
        Play.readAll(y, 0, 0, 1, 2);
        due("15: in G1", y.list(1), 3);
        // |R1| is the target, but 3 is not in G2: the oldest of R2 goes.
        x.read(3);
        due("15: equal to the target, a new block", x.list(1), 4);
        Check.dueList("15: R1", x, 1, 2, 3);
        Check.dueList("15: G2", x, 4, 0, 1);
        for (int block : Play.NO_BLOCKS) {
            due("15: list(" + block + ")", x.list(block), 0);
        }
    }

    private static void oldestIsForgotten() {
        EpochCache x = new EpochCache(3);
        Play.readAll(x, 0, 0, 1, 2, 3);
        Check.dueList("15: R1", x, 1, 2, 3);
        Check.dueList("15: G1", x, 3, 1);
        Check.dueList("15: R2", x, 2, 0);
        x.read(4);
        Check.dueList("15: oldest of G1 forgotten, G1", x, 3, 2);
        Check.dueList("15: oldest of G1 forgotten, R1", x, 1, 3, 4);
        Check.dueList("15: oldest of G1 forgotten, R2", x, 2, 0);
        due("15: oldest of G1 forgotten", x.list(1), 0);
        EpochCache y = new EpochCache(2);
        Play.readAll(y, 0, 0, 1, 1, 2, 2, 3, 3);
        Check.dueList("15: R2", y, 2, 2, 3);
        Check.dueList("15: G2", y, 4, 0, 1);
        y.read(4);
        Check.dueList("15: oldest of G2 forgotten, G2", y, 4, 1, 2);
        Check.dueList("15: oldest of G2 forgotten, R2", y, 2, 3);
        due("15: oldest of G2 forgotten", y.list(0), 0);
    }

    private static void emptyR1GivesNothing() {
        EpochCache x = new EpochCache(2);
        Play.readAll(x, 0, 0, 1, 1, 2, 2);
        Check.dueList("15: R1", x, 1);
        Check.dueList("15: G2", x, 4, 0);
        // |R1| is the target, and 0 is in G2, but R1 is empty.
        x.read(0);
        Check.dueList("15: R2 gives, R2", x, 2, 2, 0);
        Check.dueList("15: R2 gives, G1", x, 3);
        Check.dueList("15: R2 gives, G2", x, 4, 1);
        due("15: R2 gives", x.slot(1), -1);
    }

    private static void member() {
        EpochCache x = new EpochCache(4);
        Play.readAll(x, 9, 8, 15, 0);
        Check.dueList("16: the oldest first", x, 1, 9, 8, 15, 0);
        Play.readAll(x, 15, 9, 15);
        Check.dueList("16: R1", x, 1, 8, 0);
        Check.dueList("16: a hit makes it the youngest", x, 2, 9, 15);
        int[] lists = {Integer.MIN_VALUE, -1, 0, 5, 6, Integer.MAX_VALUE};
        for (int list : lists) {
            due("16: member(" + list + ", 0)", x.member(list, 0), -1);
        }
        int[] places = {Integer.MIN_VALUE, -1, 2, 3, 16, Integer.MAX_VALUE};
        for (int k : places) {
            due("16: member(2, " + k + ")", x.member(2, k), -1);
        }
    }

    // Promise 17

    private static void target() {
        EpochCache x = withTargetOne();
        due("17: from G1", x.target(), 1);
        x.read(0);
        due("17: from G2", x.target(), 0);
        Check.dueList("17: above the target, R1 gives", x, 3, 2);
        EpochCache y = new EpochCache(3);
        Play.readAll(y, 1, 0, 1, 4, 4, 3, 2, 3);
        due("17: more by 1", y.target(), 1);
        Play.readAll(y, 5, 0);
        due("17: more by |G2| / |G1|", y.target(), 3);
        Check.dueList("17: R1", y, 1, 2, 5);
        Check.dueList("17: G2", y, 4, 1, 4, 3);
        y.read(4);
        due("17: less by 1", y.target(), 2);
        Check.dueList("17: equal to the target, from G2: R1 gives", y, 3, 2);
        Check.dueList("17: equal to the target, from G2: R1 gives", y, 1, 5);
        EpochCache z = new EpochCache(4);
        Play.readAll(z, 3, 3, 7, 2, 1, 5, 7, 0, 2, 4, 1, 7, 3);
        due("17: before", z.target(), 2);
        Check.dueList("17: G1", z, 3, 5, 0);
        Check.dueList("17: G2", z, 4, 2);
        z.read(2);
        due("17: less by |G1| / |G2|", z.target(), 0);
        Check.dueList("17: R2", z, 2, 1, 7, 3, 2);
    }

    private static void targetStaysInItsBounds() {
        EpochCache x = new EpochCache(3);
        Play.readAll(x, 1, 0, 1, 4, 4, 3, 2, 3, 5, 0, 4);
        due("17: before", x.target(), 2);
        Check.dueList("17: G1", x, 3, 2);
        Check.dueList("17: G2", x, 4, 1, 3);
        x.read(2);
        due("17: at most C", x.target(), 3);
        EpochCache y = new EpochCache(4);
        Play.readAll(y, 1, 5, 2, 0, 0, 6, 6, 4, 1, 8);
        due("17: before", y.target(), 1);
        Check.dueList("17: G1", y, 3, 5, 2);
        Check.dueList("17: G2", y, 4, 0);
        y.read(0);
        due("17: at least 0", y.target(), 0);
    }

    // Promises 18 and 19

    private static void free() {
        EpochCache x = new EpochCache(2);
        x.read(0);
        due("18: one is held", x.free(), 3);
        x.flush();
        due("18: held and named", x.free(), 3);
        x.write(0, 1);
        due("18: one held, another named", x.free(), 2);
        x.read(1);
        x.write(1, 1);
        due("18: all but one", x.free(), 1);
        x.flush();
        due("18: named anew", x.free(), 2);
    }

    private static void drained() {
        EpochCache x = new EpochCache(2);
        x.write(0, 1);
        x.flush();
        due("19: a flush drains nothing", x.drained(), 0);
        x.tick();
        due("19: tick", x.drained(), 1);
        x.tick();
        due("19: tick of none", x.drained(), 1);
        x.write(0, 2);
        x.write(1, 3);
        x.detach();
        due("19: detach", x.drained(), 3);
        x.write(0, 4);
        x.write(1, 5);
        x.read(2);
        due("19: given up", x.drained(), 5);
        x.write(2, 6);
        x.lose();
        x.crash();
        due("19: what is lost is not drained", x.drained(), 5);
    }
}
