/** The boundary cases of the terms, but for those of the lists and of an access, each by a test of its own. */
public final class TermsEdgeTest {
    private static final int LEAST = Integer.MIN_VALUE;
    private static final int GREATEST = Integer.MAX_VALUE;

    public static void main(String[] args) {
        storeIsZeroAtFirst();
        storeHasBlocksZeroToFifteen();
        storeKeepsEveryInt();
        holdsAtMostC();
        slotsAreTwiceC();
        presentEpochIsZeroAtFirst();
        whatABlockSays();
        journalNamesNoneAtFirst();
        journalNamesWhatWasHeldThen();
        journalKeepsDirtyAndEpoch();
        freeSlots();
        flushWithNothingHeld();
        flushIsOneMore();
        drainLeavesTheBlockHeld();
        firstByLeastEpoch();
        firstByLeastNumber();
        giveUpClean();
        giveUpWithPresentEpoch();
        giveUpWithLesserEpoch();
        giveUpDrainsThroughItsEpoch();
        giveUpTakesTheWholePresentEpoch();
        giveUpOfDrainedBlock();
        newSlotIsTheLeast();
        newSlotWithOneFree();
        newSlotWithNoneFree();
        newSlotWithNoneFreeBehindMiss();
        newSlotWithNoneFreeInTheGreatestCache();
        writeTakesAnotherSlot();
        writeEpochAsItIsThen();
        writeOfBlockWithLesserEpoch();
        Check.finish("TermsEdgeTest");
    }

    private static void about(String sentenceAndCase) {
        Check.about(sentenceAndCase);
    }

    private static void due(String what, long got, long want) {
        Check.due(what, got, want);
    }

    // The store, and what the cache holds

    private static void storeIsZeroAtFirst() {
        about("Terms, the store: each number is 0 at first");
        EpochCache x = new EpochCache(7);
        for (int block = 0; block < 16; block++) {
            due("stored(" + block + ")", x.stored(block), 0);
            due("says(" + block + ")", x.says(block), 0);
            due("read(" + block + ")", x.read(block), 0);
        }
    }

    private static void storeHasBlocksZeroToFifteen() {
        about("Terms, the store: 16 blocks, 0 .. 15, each with a number of its own");
        EpochCache x = new EpochCache(7);
        for (int block = 0; block < 16; block++) {
            due("write(" + block + ") is taken", x.write(block, 100 + block) >= 0 ? 1 : 0, 1);
        }
        x.detach();
        for (int block = 0; block < 16; block++) {
            due("stored(" + block + ")", x.stored(block), 100 + block);
        }
        due("below the first", x.write(-1, 5), -1);
        due("above the last", x.write(16, 5), -1);
    }

    private static void storeKeepsEveryInt() {
        int[] numbers = {LEAST, LEAST + 1, -1, 0, 1, GREATEST - 1, GREATEST};
        for (int number : numbers) {
            about("Terms, the store: a number is an int, " + number);
            EpochCache x = new EpochCache(1);
            x.write(15, 3);
            x.write(15, number);
            due("says", x.says(15), number);
            due("read", x.read(15), number);
            x.flush();
            due("tick answers the block", x.tick(), 15);
            due("stored", x.stored(15), number);
            x.crash();
            due("says behind a crash", x.says(15), number);
            x.lose();
            due("read from the store", x.read(15), number);
        }
    }

    private static void holdsAtMostC() {
        for (int c = 1; c <= 7; c++) {
            about("Terms: the cache holds at most C blocks, C = " + c);
            EpochCache x = new EpochCache(c);
            for (int block = 0; block < c; block++) {
                x.read(block);
            }
            due("held, full", Play.held(x), c);
            x.read(c);
            due("held, one more by a read", Play.held(x), c);
            x.write(c + 1, 5);
            due("held, one more by a write", Play.held(x), c);
            due("the newest is held", x.slot(c + 1) >= 0 ? 1 : 0, 1);
        }
    }

    private static void slotsAreTwiceC() {
        for (int c = 1; c <= 7; c++) {
            about("Terms: 2 * C slots, 0 .. 2 * C - 1, C = " + c);
            EpochCache x = new EpochCache(c);
            due("free()", x.free(), 2 * c);
            for (int block = 0; block < c; block++) {
                x.read(block);
                due("slot(" + block + ")", x.slot(block), block);
            }
            x.flush();
            for (int block = 0; block < c; block++) {
                due("write(" + block + ")", x.write(block, 9), c + block);
            }
            due("free(), all taken", x.free(), 0);
        }
    }

    private static void presentEpochIsZeroAtFirst() {
        about("Terms: the present epoch is 0 at first");
        EpochCache x = new EpochCache(2);
        x.write(0, 1);
        due("epoch(0)", x.epoch(0), 0);
        due("flush()", new EpochCache(2).flush(), 1);
    }

    private static void whatABlockSays() {
        about("Terms, what a block says: in its slot when held, otherwise in the store");
        EpochCache x = new EpochCache(1);
        x.write(4, 40);
        due("held and dirty", x.says(4), 40);
        x.flush();
        x.tick();
        due("held and clean", x.says(4), 40);
        x.write(4, 41);
        due("held, the store has another", x.says(4), 41);
        due("the store", x.stored(4), 40);
        x.lose();
        due("not held", x.says(4), 40);
    }

    // The journal

    private static void journalNamesNoneAtFirst() {
        about("Terms, the journal: at first it names none");
        EpochCache x = new EpochCache(3);
        due("named, new", Play.named(x), 0);
        x.write(0, 1);
        x.read(1);
        due("named, blocks held but not written", Play.named(x), 0);
        due("crash()", x.crash(), 0);
    }

    private static void journalNamesWhatWasHeldThen() {
        about("Terms, the journal: the blocks that were held when it was last written, with their slots");
        EpochCache x = new EpochCache(2);
        x.write(0, 1);
        x.read(1);
        x.flush();
        due("named(0)", x.named(0), 1);
        due("named(1)", x.named(1), 0);
        x.read(2);
        due("given up, named still", x.named(0), 1);
        due("new, not named", x.named(2), -1);
        x.write(1, 5);
        due("slot(1) is another", x.slot(1), 3);
        due("named(1) is the one then", x.named(1), 0);
        x.flush();
        due("last written: no longer held", x.named(0), -1);
        due("last written: moved", x.named(1), 3);
        due("last written: new", x.named(2), 2);
    }

    private static void journalKeepsDirtyAndEpoch() {
        about("Terms, the journal: whether they were dirty, with which epoch");
        EpochCache x = new EpochCache(3);
        x.read(0);
        x.write(1, 1);
        x.flush();
        x.write(2, 2);
        x.flush();
        x.tick();
        x.write(0, 3);
        x.crash();
        due("clean then, dirty since", x.epoch(0), -1);
        due("dirty then with the least epoch, drained since", x.epoch(1), 0);
        due("dirty then", x.epoch(2), 1);
    }

    private static void freeSlots() {
        about("Terms, a free slot: no block is in it, and the journal does not name it");
        EpochCache x = new EpochCache(1);
        due("neither", x.free(), 2);
        x.read(0);
        due("a block is in it, not named", x.free(), 1);
        x.flush();
        due("a block is in it, and named", x.free(), 1);
        x.read(1);
        due("one named with no block in it, one with a block not named", x.free(), 0);
        due("the one named is not taken", x.slot(1), 1);
        x.flush();
        due("named no longer", x.free(), 1);
        due("and taken again", x.write(1, 5), 0);
    }

    // To flush, to drain, the first

    private static void flushWithNothingHeld() {
        about("Terms, to flush: no block is held");
        EpochCache x = new EpochCache(1);
        due("flush()", x.flush(), 1);
        Play.dueEmpty(x, 2);
        x.write(0, 1);
        due("one more all the same", x.epoch(0), 1);
        about("Terms, to flush: no block is held any more");
        EpochCache y = new EpochCache(1);
        y.read(0);
        y.detach();
        due("flush()", y.flush(), 1);
        Play.dueEmpty(y, 2);
    }

    private static void flushIsOneMore() {
        about("Terms, to flush: the journal is written, and the present epoch is one more");
        EpochCache x = new EpochCache(2);
        x.write(0, 1);
        due("flush()", x.flush(), 1);
        due("named(0)", x.named(0), 1);
        x.write(1, 2);
        due("epoch of what was written before", x.epoch(0), 0);
        due("epoch of what is written now", x.epoch(1), 1);
        due("nothing is drained", x.drained(), 0);
        due("nothing moves", x.slot(0), 1);
        due("flush()", x.flush(), 2);
    }

    private static void drainLeavesTheBlockHeld() {
        about("Terms, to drain: the store gets what it says, and it is clean");
        EpochCache x = new EpochCache(3);
        x.write(0, 7);
        x.read(1);
        x.flush();
        x.tick();
        due("stored(0)", x.stored(0), 7);
        due("clean", x.epoch(0), -1);
        due("in its slot", x.slot(0), 1);
        due("says", x.says(0), 7);
        Check.due("no access", Play.lists(x), "[0, 1] [] [] []");
        Check.due("no access", x.hit(), false);
        due("the journal is as it was", x.named(0), 1);
    }

    private static void firstByLeastEpoch() {
        about("Terms, the first: the least epoch, though its number is the greatest");
        EpochCache x = new EpochCache(3);
        x.write(15, 90);
        x.flush();
        x.write(7, 20);
        x.flush();
        x.write(0, 10);
        x.flush();
        due("tick()", x.tick(), 15);
        due("tick()", x.tick(), 7);
        due("tick()", x.tick(), 0);
        due("tick()", x.tick(), -1);
    }

    private static void firstByLeastNumber() {
        about("Terms, the first: of several of one epoch the least number, whatever the slot, the age and the content");
        EpochCache x = new EpochCache(3);
        x.write(15, 1);
        x.write(0, 3);
        x.write(5, 2);
        due("slot(15)", x.slot(15), 1);
        due("slot(0)", x.slot(0), 2);
        x.flush();
        due("tick()", x.tick(), 0);
        due("tick()", x.tick(), 5);
        due("tick()", x.tick(), 15);
        due("tick()", x.tick(), -1);
        about("Terms, the first: the least number where it has the least slot as well");
        EpochCache y = new EpochCache(2);
        y.write(3, 9);
        y.write(4, 8);
        y.flush();
        due("tick()", y.tick(), 3);
        due("tick()", y.tick(), 4);
    }

    // To give up

    private static void giveUpClean() {
        about("Terms, to give up: it is clean");
        EpochCache x = new EpochCache(2);
        x.read(0);
        x.write(1, 5);
        x.read(2);
        due("held no longer", x.slot(0), -1);
        due("not flushed", Play.named(x), 0);
        due("nothing is drained", x.drained(), 0);
        due("the other is dirty still", x.epoch(1), 0);
        due("its slot is free again", x.slot(2), 0);
        due("not flushed", x.flush(), 1);
    }

    private static void giveUpWithPresentEpoch() {
        about("Terms, to give up: dirty with the present epoch, so it is flushed first");
        EpochCache x = new EpochCache(1);
        x.write(0, 5);
        x.read(1);
        due("the journal names it", x.named(0), 1);
        due("the journal does not name what comes", x.named(1), -1);
        due("drained", x.stored(0), 5);
        due("drained once", x.drained(), 1);
        due("held no longer", x.slot(0), -1);
        due("flushed once", x.flush(), 2);
        about("Terms, to give up: flushed first, so the journal has it dirty");
        EpochCache y = new EpochCache(1);
        y.write(0, 5);
        y.read(1);
        due("crash()", y.crash(), 1);
        due("epoch(0)", y.epoch(0), 0);
        due("slot(0)", y.slot(0), 1);
    }

    private static void giveUpWithLesserEpoch() {
        about("Terms, to give up: dirty with the epoch next below the present one, so it is not flushed");
        EpochCache x = new EpochCache(2);
        x.write(0, 5);
        x.flush();
        x.write(1, 6);
        x.read(2);
        due("drained", x.stored(0), 5);
        due("the journal is as it was", x.named(0), 1);
        due("the journal is as it was", x.named(1), -1);
        due("of the present epoch, dirty still", x.epoch(1), 1);
        due("of the present epoch, not drained", x.stored(1), 0);
        due("not flushed", x.flush(), 2);
    }

    private static void giveUpDrainsThroughItsEpoch() {
        about("Terms, to give up: all with its epoch or a lesser one are drained, those with a greater one not");
        EpochCache x = new EpochCache(5);
        x.write(4, 40);
        x.flush();
        x.write(1, 10);
        x.write(3, 30);
        x.flush();
        x.write(2, 20);
        x.flush();
        x.write(0, 50);
        Play.readAll(x, 4);
        // R1 is 1, 3, 2, 0 and R2 is 4: block 1 goes, with epoch 1.
        x.read(9);
        Check.due("lists", Play.lists(x), "[3, 2, 0, 9] [4] [1] []");
        due("given up", x.stored(1), 10);
        due("its epoch", x.stored(3), 30);
        due("its epoch, clean", x.epoch(3), -1);
        due("a lesser epoch", x.stored(4), 40);
        due("a lesser epoch, clean", x.epoch(4), -1);
        due("a greater epoch", x.stored(2), 0);
        due("a greater epoch, dirty", x.epoch(2), 2);
        due("the present epoch", x.stored(0), 0);
        due("the present epoch, dirty", x.epoch(0), 3);
        due("drained()", x.drained(), 3);
        due("not flushed", x.flush(), 4);
    }

    private static void giveUpTakesTheWholePresentEpoch() {
        about("Terms, to give up: with the present epoch, so all that are dirty are drained, and named");
        EpochCache x = new EpochCache(3);
        x.write(2, 20);
        x.flush();
        x.write(1, 10);
        x.write(0, 30);
        x.read(2);
        // R1 is 1, 0 and R2 is 2: block 1 goes, with the present epoch 1.
        x.read(9);
        due("given up", x.stored(1), 10);
        due("its epoch", x.stored(0), 30);
        due("a lesser epoch", x.stored(2), 20);
        due("drained()", x.drained(), 3);
        due("named", Play.named(x), 3);
        due("flushed once", x.flush(), 3);
    }

    private static void giveUpOfDrainedBlock() {
        about("Terms, to give up: it was dirty, but has been drained");
        EpochCache x = new EpochCache(1);
        x.write(0, 5);
        x.flush();
        x.tick();
        x.read(1);
        due("not drained again", x.drained(), 1);
        due("not flushed", x.flush(), 2);
    }

    // A new slot

    private static void newSlotIsTheLeast() {
        about("Terms, a new slot: the free one with the least number");
        EpochCache x = new EpochCache(3);
        x.read(0);
        due("of all", x.slot(0), 0);
        due("the next one", x.write(0, 1), 1);
        x.read(1);
        due("one that is free again, below one that is taken", x.slot(1), 0);
        x.read(2);
        due("the next above those taken", x.slot(2), 2);
        due("again", x.write(0, 2), 3);
        due("the one just free", x.write(2, 2), 1);
        due("and the next one", x.write(1, 2), 2);
    }

    private static void newSlotWithOneFree() {
        about("Terms, a new slot: just one is free, so it is not flushed");
        EpochCache x = new EpochCache(1);
        x.write(0, 1);
        x.flush();
        due("free()", x.free(), 1);
        due("write(0, 2)", x.write(0, 2), 0);
        due("the journal is as it was", x.named(0), 1);
        due("epoch(0)", x.epoch(0), 1);
        due("not flushed", x.flush(), 2);
        about("Terms, a new slot: just one is free for a read, so it is not flushed");
        EpochCache y = new EpochCache(1);
        y.read(0);
        y.flush();
        y.read(1);
        due("slot(1)", y.slot(1), 1);
        due("free()", y.free(), 0);
        due("the journal is as it was", y.named(0), 0);
        due("not flushed", y.flush(), 2);
    }

    private static void newSlotWithNoneFree() {
        about("Terms, a new slot: none is free, so it is flushed first");
        EpochCache x = new EpochCache(1);
        x.write(0, 1);
        x.flush();
        x.write(0, 2);
        due("free()", x.free(), 0);
        due("write(0, 3)", x.write(0, 3), 1);
        due("the journal has the slot before", x.named(0), 0);
        due("the epoch is one more", x.epoch(0), 2);
        due("nothing is drained", x.drained(), 0);
        due("free()", x.free(), 0);
        x.crash();
        due("the journal has the number before", x.says(0), 2);
        due("the journal has the epoch before", x.epoch(0), 1);
        due("flushed once", x.flush(), 3);
    }

    private static void newSlotWithNoneFreeBehindMiss() {
        about("Terms, a new slot: none is free for a write behind its own miss");
        EpochCache x = new EpochCache(1);
        x.read(0);
        x.flush();
        due("write(1, 9)", x.write(1, 9), 0);
        due("the journal has the block as the miss left it", x.named(1), 1);
        due("the journal is written anew", x.named(0), -1);
        due("the epoch is one more", x.epoch(1), 2);
        x.crash();
        due("clean, as the miss left it", x.epoch(1), -1);
        due("with the number in the store", x.says(1), 0);
        due("flushed once", x.flush(), 3);
    }

    private static void newSlotWithNoneFreeInTheGreatestCache() {
        about("Terms, a new slot: none of 14 is free");
        EpochCache x = new EpochCache(7);
        for (int block = 0; block < 7; block++) {
            x.read(block);
        }
        x.flush();
        for (int block = 0; block < 7; block++) {
            x.write(block, 10 + block);
        }
        due("free()", x.free(), 0);
        due("write(3, 99)", x.write(3, 99), 0);
        due("named(3)", x.named(3), 10);
        due("epoch(3)", x.epoch(3), 2);
        due("epoch(6)", x.epoch(6), 1);
        due("free()", x.free(), 6);
    }

    // Writing

    private static void writeTakesAnotherSlot() {
        about("Terms, writing: another new slot takes the place of the block's slot");
        EpochCache x = new EpochCache(2);
        due("behind a miss", x.write(0, 1), 1);
        due("slot(0)", x.slot(0), 1);
        due("the slot of the miss is free", x.free(), 3);
        due("of a block in slot 1", x.write(0, 2), 0);
        due("the slot before is free", x.free(), 3);
        x.flush();
        due("of a block whose slot is named", x.write(0, 3), 1);
        due("the slot before is not free", x.free(), 2);
    }

    private static void writeEpochAsItIsThen() {
        about("Terms, writing: the present epoch, with no flush in the write");
        EpochCache x = new EpochCache(2);
        x.flush();
        x.flush();
        x.write(0, 1);
        due("epoch(0)", x.epoch(0), 2);
        due("flush()", x.flush(), 3);
        about("Terms, writing: the present epoch as it is then, flushed as a block was given up");
        EpochCache y = new EpochCache(2);
        y.write(0, 1);
        y.write(1, 2);
        due("write(2, 3)", y.write(2, 3), 3);
        due("epoch(2)", y.epoch(2), 1);
        due("flush()", y.flush(), 2);
        about("Terms, writing: the present epoch as it is then, flushed for the new slot");
        EpochCache z = new EpochCache(1);
        z.read(0);
        z.flush();
        z.write(1, 4);
        due("epoch(1)", z.epoch(1), 2);
        due("flush()", z.flush(), 3);
        about("Terms, writing: the present epoch as it is then, flushed for both");
        EpochCache w = new EpochCache(1);
        w.write(0, 1);
        due("write(1, 2)", w.write(1, 2), 1);
        due("epoch(1)", w.epoch(1), 2);
        due("named(1)", w.named(1), 0);
        due("named(0)", w.named(0), -1);
        due("flush()", w.flush(), 3);
    }

    private static void writeOfBlockWithLesserEpoch() {
        about("Terms, writing: a block that is dirty with a lesser epoch has the present one then");
        EpochCache x = new EpochCache(2);
        x.write(0, 1);
        x.flush();
        x.write(0, 2);
        due("epoch(0)", x.epoch(0), 1);
        due("tick()", x.tick(), -1);
        due("stored(0)", x.stored(0), 0);
        x.flush();
        due("tick()", x.tick(), 0);
        due("stored(0)", x.stored(0), 2);
    }
}
