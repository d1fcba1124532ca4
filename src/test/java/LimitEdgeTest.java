/** The document's "An object is used for at most 512 calls after it has been made": the 512th is as due still. */
public final class LimitEdgeTest {
    private static final int CALLS = 512;

    public static void main(String[] args) {
        flushes();
        writesOfOneBlock();
        writesByTurns();
        readsRoundTheStore();
        readsTwiceRoundTheStore();
        crashes();
        callsThatDoNothing();
        callsBehindTheLast();
        objectsApart();
        Check.finish("LimitEdgeTest");
    }

    private static void about(String theCase) {
        Check.about("512 calls: " + theCase);
    }

    private static void due(String what, long got, long want) {
        Check.due(what, got, want);
    }

    private static void flushes() {
        about("the present epoch comes to 512");
        EpochCache x = new EpochCache(1);
        for (int call = 1; call <= CALLS; call++) {
            due("flush() number " + call, x.flush(), call);
        }
    }

    private static void writesOfOneBlock() {
        about("a block is in its two slots by turns, and nothing is flushed");
        EpochCache x = new EpochCache(1);
        for (int call = 1; call <= CALLS - 2; call++) {
            due("write number " + call, x.write(0, call), call % 2);
        }
        due("says(0)", x.says(0), CALLS - 2);
        due("epoch(0)", x.epoch(0), 0);
    }

    private static void writesByTurns() {
        about("each write gives up a dirty block and is flushed twice");
        EpochCache x = new EpochCache(1);
        for (int call = 1; call <= CALLS - 4; call++) {
            due("write number " + call, x.write(call % 2, call), 1);
        }
        due("epoch(0)", x.epoch(0), 2 * (CALLS - 5));
        due("stored(1)", x.stored(1), CALLS - 5);
        due("flush()", x.flush(), 2 * (CALLS - 5) + 1);
        due("drained()", x.drained(), CALLS - 5);
    }

    private static void readsRoundTheStore() {
        about("round all 16 blocks, never a hit");
        EpochCache x = new EpochCache(7);
        for (int call = 0; call < CALLS - 10; call++) {
            x.read(call % 16);
        }
        // 502 reads end with block 5, and the seven latest are in R1.
        Check.due("hit()", x.hit(), false);
        int[] latest = {15, 0, 1, 2, 3, 4, 5};
        for (int k = 0; k < 7; k++) {
            due("member(1, " + k + ")", x.member(1, k), latest[k]);
        }
        due("member(1, 7)", x.member(1, 7), -1);
        due("free()", x.free(), 7);
    }

    private static void readsTwiceRoundTheStore() {
        about("round all 16 blocks, each twice, so that R2 and G2 have 7 each");
        EpochCache x = new EpochCache(7);
        for (int call = 0; call < CALLS - 4; call++) {
            x.read(call / 2 % 16);
        }
        // 508 reads end with the second one of block 13; 7 .. 13 are in R2 and 0 .. 6 in G2.
        due("the oldest of R2", x.member(2, 0), 7);
        due("the youngest of R2", x.member(2, 6), 13);
        due("the oldest of G2", x.member(4, 0), 0);
        due("the youngest of G2", x.member(4, 6), 6);
    }

    private static void crashes() {
        about("write, flush and crash by turns");
        EpochCache x = new EpochCache(1);
        for (int turn = 0; turn < CALLS / 4; turn++) {
            due("write in turn " + turn, x.write(9, turn), (turn + 1) % 2);
            due("flush in turn " + turn, x.flush(), turn + 1);
            due("crash in turn " + turn, x.crash(), 1);
            due("says in turn " + turn, x.says(9), turn);
        }
    }

    private static void callsThatDoNothing() {
        about("refused calls and ticks that find none count for nothing");
        EpochCache x = new EpochCache(2);
        x.write(0, 5);
        for (int call = 0; call < 101; call++) {
            x.read(16);
            x.write(-1, 5);
            x.tick();
            x.says(0);
            x.member(5, 0);
        }
        due("slot(0)", x.slot(0), 1);
        due("epoch(0)", x.epoch(0), 0);
        due("free()", x.free(), 3);
        due("drained()", x.drained(), 0);
        Check.due("hit()", x.hit(), false);
        due("flush()", x.flush(), 1);
    }

    /** LANGUAGE.md, rule 7: what later calls answer is free, but they end and throw nothing. */
    private static void callsBehindTheLast() {
        about("calls behind the 512th end and throw nothing");
        EpochCache x = new EpochCache(3);
        int thrown = 0;
        for (int call = 0; call < 20000; call++) {
            try {
                x.write(call * 7 % 16, call);
                x.read(call * 11 % 16);
                x.flush();
                x.tick();
                x.crash();
            } catch (RuntimeException problem) {
                thrown++;
            }
        }
        due("thrown", thrown, 0);
    }

    private static void objectsApart() {
        about("what one object does changes no other");
        EpochCache other = Play.reads(2, 0, 0, 1, 2, 1);
        String before = Play.view(other);
        EpochCache x = new EpochCache(2);
        for (int call = 0; call < 100; call++) {
            x.write(call % 16, call);
            x.read(call % 5);
            x.flush();
            x.tick();
        }
        Check.due("all questions to the other", Play.view(other), before);
        Play.dueEmpty(new EpochCache(2), 4);
        due("epoch of the other", other.flush(), 1);
    }
}
