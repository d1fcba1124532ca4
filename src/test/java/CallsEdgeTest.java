/** The boundary cases of promises 1 to 8, but for the refused calls, each by a test of its own. */
public final class CallsEdgeTest {
    private static final int LEAST = Integer.MIN_VALUE;
    private static final int GREATEST = Integer.MAX_VALUE;

    public static void main(String[] args) {
        newObjectTooSmall();
        newObjectInRange();
        newObjectTooLarge();
        newObjectHoldsNothing();
        readOfTheEnds();
        readOfAMissThatDrains();
        writeOfTheEnds();
        writeAnswersTheSlotThen();
        flushAnswers();
        tickWithNone();
        tickWithPresentEpochOnly();
        tickWithTheEpochBefore();
        tickDrainsOne();
        detachWithNothingHeld();
        detachWithCleanOnly();
        detachWithEveryEpoch();
        detachEmptiesListsAndTarget();
        detachWritesTheJournal();
        detachKeepsTheEpoch();
        crashWhereTheJournalNamesNone();
        crashBringsJustWhatIsNamed();
        crashBySlots();
        crashWithAllHeld();
        crashEmptiesTheOtherLists();
        crashKeepsTheEpoch();
        crashKeepsTheJournal();
        loseWithNothingHeld();
        loseCountsDirtyBlocks();
        loseEmptiesAll();
        loseSetsTheEpochToZero();
        loseLeavesTheStore();
        Check.finish("CallsEdgeTest");
    }

    private static void about(String promiseAndCase) {
        Check.about(promiseAndCase);
    }

    private static void due(String what, long got, long want) {
        Check.due(what, got, want);
    }

    /** R1 is 3, 4; R2 is 1; G1 is 2; G2 is 0; the target is 1; all are clean, and the journal names none. */
    private static EpochCache withAllLists() {
        return Play.reads(3, 0, 0, 1, 2, 3, 1, 4);
    }

    // Promise 1

    private static void newObjectTooSmall() {
        int[] tooSmall = {LEAST, LEAST + 1, -7, -2, -1, 0};
        for (int blocks : tooSmall) {
            about("Promise 1: C is at least 1, EpochCache(" + blocks + ")");
            dueC(blocks, 1);
        }
    }

    private static void newObjectInRange() {
        for (int blocks = 1; blocks <= 7; blocks++) {
            about("Promise 1: C is blocks, EpochCache(" + blocks + ")");
            dueC(blocks, blocks);
        }
    }

    private static void newObjectTooLarge() {
        int[] tooLarge = {8, 9, 14, 16, 1 << 30, GREATEST - 1, GREATEST};
        for (int blocks : tooLarge) {
            about("Promise 1: C is at most 7, EpochCache(" + blocks + ")");
            dueC(blocks, 7);
        }
    }

    private static void dueC(int blocks, int c) {
        EpochCache x = new EpochCache(blocks);
        due("free()", x.free(), 2 * c);
        for (int block = 0; block < c; block++) {
            x.read(block);
        }
        due("held", Play.held(x), c);
        x.read(c);
        due("held with one more", Play.held(x), c);
    }

    private static void newObjectHoldsNothing() {
        for (int blocks = 0; blocks <= 8; blocks++) {
            about("Promise 1: no block is held, EpochCache(" + blocks + ")");
            Play.dueEmpty(new EpochCache(blocks), 2 * Math.max(1, Math.min(7, blocks)));
        }
    }

    // Promises 2 and 3

    private static void readOfTheEnds() {
        int[] ends = {0, 15};
        for (int block : ends) {
            about("Promise 2: read(" + block + ") at an end of the store");
            EpochCache x = new EpochCache(2);
            due("a miss", x.read(block), 0);
            due("held", x.slot(block), 0);
            x.write(block, -5);
            due("a hit", x.read(block), -5);
            Check.due("hit()", x.hit(), true);
        }
    }

    private static void readOfAMissThatDrains() {
        about("Promise 2: what it says then, behind a miss for which another is given up");
        EpochCache x = new EpochCache(1);
        x.write(0, 8);
        due("read(1)", x.read(1), 0);
        due("read(0)", x.read(0), 8);
        due("clean", x.epoch(0), -1);
    }

    private static void writeOfTheEnds() {
        int[] ends = {0, 15};
        int[] numbers = {LEAST, -1, 0, 1, GREATEST};
        for (int block : ends) {
            for (int number : numbers) {
                about("Promise 3: write(" + block + ", " + number + ") at an end of the store");
                EpochCache x = new EpochCache(2);
                due("the slot", x.write(block, number), 1);
                due("says", x.says(block), number);
                due("dirty", x.epoch(block), 0);
                x.detach();
                due("stored", x.stored(block), number);
            }
        }
    }

    private static void writeAnswersTheSlotThen() {
        about("Promise 3: answers the slot in which it is then, the least and the greatest one");
        EpochCache x = new EpochCache(1);
        due("slot 1", x.write(0, 1), 1);
        due("slot(0)", x.slot(0), 1);
        due("slot 0", x.write(0, 2), 0);
        due("slot(0)", x.slot(0), 0);
        EpochCache y = Play.reads(7, 0, 1, 2, 3, 4, 5, 6);
        y.flush();
        for (int block = 0; block < 6; block++) {
            y.write(block, 1);
        }
        due("slot 13", y.write(6, 1), 13);
        due("slot(6)", y.slot(6), 13);
    }

    // Promises 4 and 5

    private static void flushAnswers() {
        about("Promise 4: answers the present epoch, as it is behind the flush");
        EpochCache x = new EpochCache(1);
        due("the first", x.flush(), 1);
        due("the second", x.flush(), 2);
        x.write(0, 1);
        due("is the epoch of a write", x.epoch(0), 2);
        due("the third", x.flush(), 3);
    }

    private static void tickWithNone() {
        about("Promise 5: -1 when no block is held");
        EpochCache x = new EpochCache(1);
        due("tick()", x.tick(), -1);
        x.flush();
        due("tick() in epoch 1", x.tick(), -1);
        about("Promise 5: -1 when none is dirty");
        EpochCache y = Play.reads(2, 0, 1);
        y.flush();
        due("tick()", y.tick(), -1);
        due("drained()", y.drained(), 0);
    }

    private static void tickWithPresentEpochOnly() {
        about("Promise 5: -1 when all that are dirty have the present epoch, 0");
        EpochCache x = new EpochCache(2);
        x.write(0, 5);
        due("tick()", x.tick(), -1);
        due("dirty still", x.epoch(0), 0);
        due("stored(0)", x.stored(0), 0);
        due("drained()", x.drained(), 0);
        about("Promise 5: -1 when all that are dirty have the present epoch, 1");
        EpochCache y = new EpochCache(2);
        y.flush();
        y.write(0, 5);
        due("tick()", y.tick(), -1);
        due("dirty still", y.epoch(0), 1);
        about("Promise 5: -1 when all that are dirty have the present epoch, 0 again behind lose()");
        EpochCache z = new EpochCache(2);
        z.flush();
        z.lose();
        z.write(0, 5);
        due("tick()", z.tick(), -1);
    }

    private static void tickWithTheEpochBefore() {
        about("Promise 5: the epoch next below the present one is not the present one");
        EpochCache x = new EpochCache(2);
        x.write(0, 5);
        x.flush();
        due("tick()", x.tick(), 0);
        due("stored(0)", x.stored(0), 5);
        due("clean", x.epoch(0), -1);
        due("tick() again", x.tick(), -1);
    }

    private static void tickDrainsOne() {
        about("Promise 5: one is drained, and its own number is the answer");
        EpochCache x = new EpochCache(3);
        x.write(15, 3);
        x.write(14, 4);
        x.flush();
        due("tick()", x.tick(), 14);
        due("stored(14)", x.stored(14), 4);
        due("the other is dirty still", x.epoch(15), 0);
        due("drained()", x.drained(), 1);
    }

    // Promise 6

    private static void detachWithNothingHeld() {
        about("Promise 6: no block is held");
        EpochCache x = new EpochCache(2);
        due("detach()", x.detach(), 0);
        Play.dueEmpty(x, 4);
        due("drained()", x.drained(), 0);
        due("again", x.detach(), 0);
    }

    private static void detachWithCleanOnly() {
        about("Promise 6: all that are held are clean");
        EpochCache x = Play.reads(2, 0, 1);
        due("detach()", x.detach(), 0);
        due("drained()", x.drained(), 0);
        Play.dueEmpty(x, 4);
    }

    private static void detachWithEveryEpoch() {
        about("Promise 6: all dirty blocks are drained, those with the present epoch too");
        EpochCache x = new EpochCache(4);
        x.write(15, 1);
        x.flush();
        x.write(3, 2);
        x.flush();
        x.write(0, 3);
        x.read(7);
        due("detach()", x.detach(), 3);
        due("the least epoch", x.stored(15), 1);
        due("between", x.stored(3), 2);
        due("the present epoch", x.stored(0), 3);
        due("clean", x.stored(7), 0);
        due("drained()", x.drained(), 3);
        about("Promise 6: all C blocks are dirty, and the journal names none");
        EpochCache y = new EpochCache(7);
        for (int block = 0; block < 7; block++) {
            y.write(block, 50 + block);
        }
        due("detach()", y.detach(), 7);
        due("stored(0)", y.stored(0), 50);
        due("stored(6)", y.stored(6), 56);
        Play.dueEmpty(y, 14);
    }

    private static void detachEmptiesListsAndTarget() {
        about("Promise 6: the lists are empty, the target is 0");
        EpochCache x = withAllLists();
        Check.due("lists before", Play.lists(x), "[3, 4] [1] [2] [0]");
        due("target before", x.target(), 1);
        due("detach()", x.detach(), 0);
        Play.dueEmpty(x, 6);
        x.read(0);
        Check.due("a ghost is none any more", Play.lists(x), "[0] [] [] []");
    }

    private static void detachWritesTheJournal() {
        about("Promise 6: the journal is written when no block is held any more");
        EpochCache x = new EpochCache(2);
        x.write(0, 5);
        x.flush();
        due("named(0) before", x.named(0), 1);
        x.detach();
        due("named(0)", x.named(0), -1);
        due("free()", x.free(), 4);
        due("crash() brings none", x.crash(), 0);
    }

    private static void detachKeepsTheEpoch() {
        about("Promise 6: the epoch stays, 0");
        EpochCache x = new EpochCache(2);
        x.write(0, 5);
        x.detach();
        x.write(0, 6);
        due("epoch(0)", x.epoch(0), 0);
        due("flush()", x.flush(), 1);
        about("Promise 6: the epoch stays, 2");
        EpochCache y = new EpochCache(2);
        y.flush();
        y.flush();
        y.write(0, 5);
        y.detach();
        y.write(0, 6);
        due("epoch(0)", y.epoch(0), 2);
        due("flush()", y.flush(), 3);
    }

    // Promise 7

    private static void crashWhereTheJournalNamesNone() {
        about("Promise 7: the journal names none, in a new object");
        EpochCache x = new EpochCache(2);
        due("crash()", x.crash(), 0);
        Play.dueEmpty(x, 4);
        about("Promise 7: the journal names none, with blocks held, ghosts and a target");
        EpochCache y = withAllLists();
        y.write(3, 5);
        due("crash()", y.crash(), 0);
        Play.dueEmpty(y, 6);
        due("nothing is drained", y.drained(), 0);
        due("what was written is lost", y.says(3), 0);
        due("the epoch stays", y.flush(), 1);
        about("Promise 7: the journal was written when no block was held");
        EpochCache z = new EpochCache(2);
        z.flush();
        z.write(0, 5);
        due("crash()", z.crash(), 0);
        Play.dueEmpty(z, 4);
    }

    private static void crashBringsJustWhatIsNamed() {
        about("Promise 7: just those that the journal names, as it says, with the numbers in their slots");
        EpochCache x = new EpochCache(2);
        x.write(0, 10);
        x.read(1);
        x.flush();
        x.write(1, 21);
        x.read(2);
        due("0 was given up", x.slot(0), -1);
        due("crash()", x.crash(), 2);
        due("given up since, held again", x.slot(0), 1);
        due("its number", x.says(0), 10);
        due("dirty, as the journal says", x.epoch(0), 0);
        due("moved since, where it was", x.slot(1), 0);
        due("its number then", x.says(1), 0);
        due("clean, as the journal says", x.epoch(1), -1);
        due("not named, not held", x.slot(2), -1);
        due("held", Play.held(x), 2);
        due("free()", x.free(), 2);
    }

    private static void crashBySlots() {
        about("Promise 7: R1 has that with the least slot as the oldest");
        EpochCache x = new EpochCache(3);
        x.write(1, 10);
        x.read(2);
        x.write(0, 30);
        x.read(2);
        due("slot(2)", x.slot(2), 0);
        due("slot(1)", x.slot(1), 1);
        due("slot(0)", x.slot(0), 3);
        x.flush();
        due("crash()", x.crash(), 3);
        Check.due("lists", Play.lists(x), "[2, 1, 0] [] [] []");
    }

    private static void crashWithAllHeld() {
        about("Promise 7: the journal names C = 7 blocks");
        EpochCache x = Play.reads(7, 6, 5, 4, 3, 2, 1, 0);
        x.flush();
        due("crash()", x.crash(), 7);
        Check.due("lists", Play.lists(x), "[6, 5, 4, 3, 2, 1, 0] [] [] []");
        x.read(15);
        Check.due("and goes on full", Play.lists(x), "[5, 4, 3, 2, 1, 0, 15] [] [] []");
        about("Promise 7: the journal names 1 of C = 7");
        EpochCache y = Play.reads(7, 9);
        y.flush();
        Play.readAll(y, 1, 2, 3);
        due("crash()", y.crash(), 1);
        Check.due("lists", Play.lists(y), "[9] [] [] []");
        y.read(15);
        Check.due("and goes on not full", Play.lists(y), "[9, 15] [] [] []");
    }

    private static void crashEmptiesTheOtherLists() {
        about("Promise 7: the other lists are empty, the target is 0");
        EpochCache x = withAllLists();
        x.flush();
        Check.due("lists before", Play.lists(x), "[3, 4] [1] [2] [0]");
        due("target before", x.target(), 1);
        due("slot(4)", x.slot(4), 0);
        due("slot(3)", x.slot(3), 1);
        due("slot(1)", x.slot(1), 2);
        due("crash()", x.crash(), 3);
        Check.due("lists", Play.lists(x), "[4, 3, 1] [] [] []");
        due("target()", x.target(), 0);
    }

    private static void crashKeepsTheEpoch() {
        about("Promise 7: the present epoch stays");
        EpochCache x = new EpochCache(2);
        x.write(0, 1);
        x.flush();
        x.flush();
        x.crash();
        x.write(1, 5);
        due("epoch(0)", x.epoch(0), 0);
        due("epoch(1)", x.epoch(1), 2);
        due("flush()", x.flush(), 3);
    }

    private static void crashKeepsTheJournal() {
        about("Promise 7: the journal and the store are as before");
        EpochCache x = new EpochCache(2);
        x.write(0, 1);
        x.flush();
        x.tick();
        x.write(0, 2);
        due("crash()", x.crash(), 1);
        due("named(0)", x.named(0), 1);
        due("stored(0)", x.stored(0), 1);
        due("drained()", x.drained(), 1);
        due("crash() again", x.crash(), 1);
        due("slot(0)", x.slot(0), 1);
        due("drained since, dirty again", x.tick(), 0);
    }

    // Promise 8

    private static void loseWithNothingHeld() {
        about("Promise 8: no block is held");
        EpochCache x = new EpochCache(2);
        due("lose()", x.lose(), 0);
        Play.dueEmpty(x, 4);
        due("again", x.lose(), 0);
    }

    private static void loseCountsDirtyBlocks() {
        about("Promise 8: none of those that are held is dirty");
        EpochCache x = Play.reads(2, 0, 1);
        due("lose()", x.lose(), 0);
        about("Promise 8: some are dirty, of several epochs");
        EpochCache y = new EpochCache(4);
        y.write(0, 1);
        y.write(1, 2);
        y.flush();
        y.tick();
        y.write(2, 3);
        y.read(3);
        due("lose()", y.lose(), 2);
        about("Promise 8: all C are dirty");
        EpochCache z = new EpochCache(7);
        for (int block = 0; block < 7; block++) {
            z.write(block, 1);
        }
        due("lose()", z.lose(), 7);
        due("nothing is drained", z.drained(), 0);
    }

    private static void loseEmptiesAll() {
        about("Promise 8: no block is held, the journal names none, all lists are empty, the target is 0");
        EpochCache x = withAllLists();
        x.flush();
        due("named before", Play.named(x), 3);
        due("target before", x.target(), 1);
        due("lose()", x.lose(), 0);
        Play.dueEmpty(x, 6);
        due("crash() brings none", x.crash(), 0);
    }

    private static void loseSetsTheEpochToZero() {
        about("Promise 8: the present epoch is 0");
        EpochCache x = new EpochCache(2);
        x.flush();
        x.flush();
        x.lose();
        x.write(0, 1);
        due("epoch(0)", x.epoch(0), 0);
        due("tick(), of the present epoch", x.tick(), -1);
        due("flush()", x.flush(), 1);
    }

    private static void loseLeavesTheStore() {
        about("Promise 8: the store stays, and what was not drained is lost");
        EpochCache x = new EpochCache(2);
        x.write(0, 1);
        x.flush();
        x.tick();
        x.write(0, 2);
        x.write(1, 3);
        due("lose()", x.lose(), 2);
        due("stored(0)", x.stored(0), 1);
        due("says(0)", x.says(0), 1);
        due("says(1)", x.says(1), 0);
        due("drained()", x.drained(), 1);
    }
}
