/** The boundary cases of promises 9 to 19, each by a test of its own. */
public final class AsksEdgeTest {
    private static final int LEAST = Integer.MIN_VALUE;
    private static final int GREATEST = Integer.MAX_VALUE;

    public static void main(String[] args) {
        hitBeforeTheFirst();
        hitOfEachList();
        hitOfTheLatest();
        hitIsKept();
        saysOfNoBlock();
        saysIsNoAccess();
        storedOfNoBlock();
        storedIsBehind();
        slotOfNoBlock();
        slotWhenNotHeld();
        slotEnds();
        namedOfNoBlock();
        namedWhenItNamesNone();
        epochOfNoBlock();
        epochWhenNotDirty();
        listOfNoBlock();
        listWhenInNone();
        listOfEach();
        memberOfNoList();
        memberOfEmptyList();
        memberBesideTheEnds();
        memberOfFullLists();
        targetFromZeroToC();
        freeFromNoneToAll();
        drainedCountsEachTime();
        Check.finish("AsksEdgeTest");
    }

    private static void about(String promiseAndCase) {
        Check.about(promiseAndCase);
    }

    private static void due(String what, long got, long want) {
        Check.due(what, got, want);
    }

    // Promise 9

    private static void hitBeforeTheFirst() {
        about("Promise 9: false before the first read or write");
        Check.due("hit()", new EpochCache(2).hit(), false);
        about("Promise 9: false before the first one, behind calls that are none");
        EpochCache x = new EpochCache(2);
        x.flush();
        x.tick();
        x.detach();
        x.crash();
        x.lose();
        x.says(0);
        Check.due("hit()", x.hit(), false);
        about("Promise 9: false before the first one of a block, behind refused ones");
        EpochCache y = new EpochCache(2);
        y.read(-1);
        y.write(16, 5);
        Check.due("hit()", y.hit(), false);
    }

    private static void hitOfEachList() {
        for (int block = 0; block <= 5; block++) {
            EpochCache x = Play.withAllLists();
            boolean held = x.list(block) == 1 || x.list(block) == 2;
            about("Promise 9: a read of a block in list " + x.list(block));
            x.read(block);
            Check.due("hit()", x.hit(), held);
            EpochCache y = Play.withAllLists();
            about("Promise 9: a write of a block in list " + y.list(block));
            y.write(block, 1);
            Check.due("hit()", y.hit(), held);
        }
    }

    private static void hitOfTheLatest() {
        about("Promise 9: the latest one counts, a miss behind a hit");
        EpochCache x = Play.reads(2, 0, 0);
        Check.due("a hit", x.hit(), true);
        x.read(1);
        Check.due("a miss behind it", x.hit(), false);
        about("Promise 9: the latest read or write of a block, so a refused one changes nothing");
        EpochCache y = Play.reads(2, 0, 0);
        y.read(16);
        y.write(-1, 5);
        Check.due("hit()", y.hit(), true);
    }

    private static void hitIsKept() {
        about("Promise 9: the latest one counts, behind crash()");
        EpochCache x = Play.reads(2, 0);
        x.flush();
        x.crash();
        Check.due("it was a miss", x.hit(), false);
        x.read(0);
        Check.due("held behind a crash, a hit", x.hit(), true);
        x.crash();
        Check.due("it was a hit", x.hit(), true);
        about("Promise 9: the latest one counts, behind detach()");
        EpochCache y = Play.reads(2, 0, 0);
        y.detach();
        Check.due("it was a hit", y.hit(), true);
        y.read(0);
        Check.due("not held any more, a miss", y.hit(), false);
        about("Promise 9: the latest one counts, behind lose()");
        EpochCache z = Play.reads(2, 0, 0);
        z.lose();
        Check.due("it was a hit", z.hit(), true);
        z.read(0);
        Check.due("not held any more, a miss", z.hit(), false);
    }

    // Promises 10 and 11

    private static void saysOfNoBlock() {
        for (int block : Play.NO_BLOCKS) {
            about("Promise 10: 0 when there is none such, says(" + block + ")");
            due("with blocks held", Play.withAllLists().says(block), 0);
            due("new", new EpochCache(1).says(block), 0);
            due("with both ends written", withBothEnds().says(block), 0);
        }
    }

    private static EpochCache withBothEnds() {
        EpochCache x = new EpochCache(7);
        x.write(0, 77);
        x.write(15, 88);
        x.flush();
        x.tick();
        x.tick();
        return x;
    }

    private static void saysIsNoAccess() {
        about("Promise 10: this is no access");
        EpochCache x = Play.withAllLists();
        String before = Play.view(x);
        for (int block = 0; block < 16; block++) {
            x.says(block);
        }
        Check.due("all answers", Play.view(x), before);
    }

    private static void storedOfNoBlock() {
        for (int block : Play.NO_BLOCKS) {
            about("Promise 11: 0 when there is none such, stored(" + block + ")");
            due("with blocks held", Play.withAllLists().stored(block), 0);
            due("with both ends written", withBothEnds().stored(block), 0);
        }
        about("Promise 11: the ends of the store");
        due("stored(0)", withBothEnds().stored(0), 77);
        due("stored(15)", withBothEnds().stored(15), 88);
    }

    private static void storedIsBehind() {
        about("Promise 11: the number in the store, not the one in the slot");
        EpochCache x = new EpochCache(1);
        x.write(0, 1);
        due("written", x.stored(0), 0);
        x.flush();
        due("flushed", x.stored(0), 0);
        x.crash();
        due("crashed", x.stored(0), 0);
        x.tick();
        due("drained", x.stored(0), 1);
        x.write(0, 2);
        due("written again", x.stored(0), 1);
    }

    // Promises 12, 13 and 14

    private static void slotOfNoBlock() {
        for (int block : Play.NO_BLOCKS) {
            about("Promise 12: -1 when there is none such, slot(" + block + ")");
            due("with blocks held", Play.withAllLists().slot(block), -1);
            due("new", new EpochCache(1).slot(block), -1);
            due("no slot is free", Play.withNoFreeSlot().slot(block), -1);
        }
    }

    private static void slotWhenNotHeld() {
        about("Promise 12: -1 when it is not held");
        EpochCache x = Play.withAllLists();
        due("in G1", x.slot(2), -1);
        due("in G2", x.slot(0), -1);
        due("in none", x.slot(15), -1);
        EpochCache y = Play.reads(1, 0, 1);
        due("given up", y.slot(0), -1);
        y.lose();
        due("lost", y.slot(1), -1);
    }

    private static void slotEnds() {
        about("Promise 12: the least and the greatest slot");
        EpochCache x = Play.reads(7, 0, 1, 2, 3, 4, 5, 6);
        due("slot(0)", x.slot(0), 0);
        x.flush();
        for (int block = 0; block < 7; block++) {
            x.write(block, 1);
        }
        due("slot(6)", x.slot(6), 13);
    }

    private static void namedOfNoBlock() {
        for (int block : Play.NO_BLOCKS) {
            about("Promise 13: -1 when there is no such block, named(" + block + ")");
            due("with blocks named", Play.withAllLists().named(block), -1);
            due("new", new EpochCache(1).named(block), -1);
        }
    }

    private static void namedWhenItNamesNone() {
        about("Promise 13: -1 when it names none for the block");
        EpochCache x = Play.reads(2, 0, 15);
        due("held, but not written", x.named(0), -1);
        x.flush();
        due("held and written", x.named(0), 0);
        due("held and written", x.named(15), 1);
        due("not held", x.named(1), -1);
        x.read(1);
        due("held since", x.named(1), -1);
        due("held no longer", x.named(0), 0);
        x.flush();
        due("held no longer, written again", x.named(0), -1);
    }

    private static void epochOfNoBlock() {
        for (int block : Play.NO_BLOCKS) {
            about("Promise 14: -1 when there is none such, epoch(" + block + ")");
            due("with a dirty block", Play.withAllLists().epoch(block), -1);
            due("new", new EpochCache(1).epoch(block), -1);
        }
    }

    private static void epochWhenNotDirty() {
        about("Promise 14: -1 when it is not dirty");
        EpochCache x = new EpochCache(2);
        due("not held", x.epoch(0), -1);
        x.read(0);
        due("read", x.epoch(0), -1);
        x.write(0, 1);
        due("written, the least epoch", x.epoch(0), 0);
        x.flush();
        due("flushed", x.epoch(0), 0);
        x.tick();
        due("drained", x.epoch(0), -1);
        x.write(0, 2);
        due("written again", x.epoch(0), 1);
        x.detach();
        due("held no longer", x.epoch(0), -1);
    }

    // Promises 15 and 16

    private static void listOfNoBlock() {
        for (int block : Play.NO_BLOCKS) {
            about("Promise 15: 0 when there is none such, list(" + block + ")");
            due("with blocks in all lists", Play.withAllLists().list(block), 0);
            due("new", new EpochCache(1).list(block), 0);
        }
    }

    private static void listWhenInNone() {
        about("Promise 15: 0 when it is in none");
        due("never read", Play.withAllLists().list(15), 0);
        due("given up with G1 empty", Play.reads(1, 0, 1).list(0), 0);
        due("forgotten by G1", Play.reads(2, 0, 0, 1, 2, 3).list(1), 0);
        due("forgotten by G2", Play.reads(2, 0, 1, 0, 2, 2, 1, 3, 4).list(0), 0);
    }

    private static void listOfEach() {
        about("Promise 15: 1 R1, 2 R2, 3 G1, 4 G2");
        EpochCache x = Play.withAllLists();
        Check.due("lists", Play.lists(x), "[3, 4] [1] [2] [0]");
        due("the oldest of R1", x.list(3), 1);
        due("the youngest of R1", x.list(4), 1);
        due("R2", x.list(1), 2);
        due("G1", x.list(2), 3);
        due("G2", x.list(0), 4);
    }

    private static void memberOfNoList() {
        int[] noLists = {LEAST, LEAST + 1, -4, -1, 0, 5, 6, 256, GREATEST - 1, GREATEST};
        int[] places = {LEAST, -1, 0, 1, GREATEST};
        for (int list : noLists) {
            about("Promise 16: -1 when there is none, list " + list);
            for (int k : places) {
                due("member(" + list + ", " + k + ")", Play.withAllLists().member(list, k), -1);
            }
        }
    }

    private static void memberOfEmptyList() {
        int[] places = {LEAST, -1, 0, 1, GREATEST};
        for (int list = 1; list <= 4; list++) {
            about("Promise 16: -1 when there is none, list " + list + " is empty");
            for (int k : places) {
                due("new, member(" + list + ", " + k + ")", new EpochCache(2).member(list, k), -1);
            }
            EpochCache x = Play.withAllLists();
            due("before", x.member(list, 0) >= 0 ? 1 : 0, 1);
            x.lose();
            due("empty again", x.member(list, 0), -1);
        }
    }

    private static void memberBesideTheEnds() {
        int[] size = {2, 1, 1, 1};
        for (int list = 1; list <= 4; list++) {
            about("Promise 16: beside the ends of list " + list);
            EpochCache x = Play.withAllLists();
            int[] noPlaces = {LEAST, LEAST + 1, -2, -1, size[list - 1], size[list - 1] + 1, 7, 16, GREATEST};
            for (int k : noPlaces) {
                due("member(" + list + ", " + k + ")", x.member(list, k), -1);
            }
            due("the oldest is there", x.member(list, 0) >= 0 ? 1 : 0, 1);
            due("the youngest is there", x.member(list, size[list - 1] - 1) >= 0 ? 1 : 0, 1);
        }
        about("Promise 16: a list that has become shorter");
        EpochCache y = Play.reads(2, 0, 1);
        due("before", y.member(1, 1), 1);
        y.read(0);
        due("the oldest", y.member(1, 0), 1);
        due("behind the end", y.member(1, 1), -1);
    }

    private static void memberOfFullLists() {
        about("Promise 16: R1 with C = 7 blocks");
        Check.dueList("R1", Play.reads(7, 6, 5, 4, 3, 2, 1, 15), 1, 6, 5, 4, 3, 2, 1, 15);
        about("Promise 16: R2 and G2 with 7 blocks each");
        EpochCache x = new EpochCache(7);
        for (int block = 0; block < 14; block++) {
            Play.readAll(x, block, block);
        }
        Check.dueList("R2", x, 2, 7, 8, 9, 10, 11, 12, 13);
        Check.dueList("G2", x, 4, 0, 1, 2, 3, 4, 5, 6);
        about("Promise 16: G1 with 6 blocks");
        EpochCache y = Play.reads(7, 0, 0, 1, 1, 2, 2, 3, 3, 4, 4, 5, 5, 6, 7, 8, 9, 10, 11, 12);
        Check.dueList("G1", y, 3, 6, 7, 8, 9, 10, 11);
    }

    // Promises 17, 18 and 19

    private static void targetFromZeroToC() {
        about("Promise 17: 0 at first");
        due("target()", new EpochCache(1).target(), 0);
        about("Promise 17: C, the least C");
        EpochCache x = Play.reads(1, 0, 0, 1, 0, 1);
        due("target()", x.target(), 1);
        about("Promise 17: 0 behind detach(), crash() and lose()");
        EpochCache y = Play.withAllLists();
        due("before", y.target(), 1);
        y.detach();
        due("detach()", y.target(), 0);
        EpochCache z = Play.withAllLists();
        z.crash();
        due("crash()", z.target(), 0);
        EpochCache w = Play.withAllLists();
        w.lose();
        due("lose()", w.target(), 0);
        about("Promise 17: stays over flush() and tick()");
        EpochCache v = Play.withAllLists();
        v.write(4, 5);
        v.flush();
        v.tick();
        due("target()", v.target(), 1);
    }

    private static void freeFromNoneToAll() {
        about("Promise 18: all are free");
        due("new", new EpochCache(7).free(), 14);
        EpochCache x = Play.withAllLists();
        x.detach();
        due("detached", x.free(), 6);
        EpochCache y = Play.withAllLists();
        y.lose();
        due("lost", y.free(), 6);
        about("Promise 18: none is free");
        due("C = 1", Play.withNoFreeSlot().free(), 0);
        about("Promise 18: a slot that is held and named counts once");
        EpochCache z = Play.reads(2, 0, 1);
        due("held", z.free(), 2);
        z.flush();
        due("held and named", z.free(), 2);
        z.write(0, 1);
        due("moved", z.free(), 1);
        z.crash();
        due("crashed", z.free(), 2);
    }

    private static void drainedCountsEachTime() {
        about("Promise 19: 0 at first");
        due("drained()", new EpochCache(1).drained(), 0);
        about("Promise 19: a block counts each time that it is drained");
        EpochCache x = new EpochCache(1);
        for (int time = 1; time <= 3; time++) {
            x.write(0, time);
            x.flush();
            due("flushed", x.drained(), time - 1);
            x.tick();
            due("drained", x.drained(), time);
        }
        about("Promise 19: a block that a crash makes dirty again counts again");
        x.crash();
        due("crashed", x.drained(), 3);
        x.tick();
        due("drained", x.drained(), 4);
        about("Promise 19: kept over detach(), crash() and lose()");
        x.write(0, 9);
        x.detach();
        due("detach()", x.drained(), 5);
        x.crash();
        due("crash()", x.drained(), 5);
        x.write(0, 9);
        x.lose();
        due("lose()", x.drained(), 5);
    }
}
