import java.util.ArrayList;
import java.util.List;

/**
 * Calls that are refused or find nothing, and questions: in each of several states the answer is as due, every
 * question has the same answer before and behind, and an object with the call goes on as one without it.
 */
public final class RefusedEdgeTest {
    private static final int LEAST = Integer.MIN_VALUE;
    private static final int GREATEST = Integer.MAX_VALUE;

    /** A call, of which a boolean answer counts 1 or 0. */
    private interface Call {
        int on(EpochCache x);
    }

    /** Makes a new object each time, since one is promised for 512 calls only. */
    private interface State {
        EpochCache make();
    }

    private record NamedState(String name, State state) {
    }

    public static void main(String[] args) {
        for (NamedState state : states()) {
            refusedReads(state);
            refusedWrites(state);
            refusedQuestions(state);
            refusedMembers(state);
            questions(state);
        }
        ticksThatFindNone();
        Check.finish("RefusedEdgeTest");
    }

    // The states

    private static List<NamedState> states() {
        return List.of(
            new NamedState("a new object", () -> new EpochCache(1)),
            new NamedState("behind a miss", () -> Play.reads(2, 0)),
            new NamedState("behind a hit", () -> Play.reads(2, 0, 0)),
            new NamedState("all lists and a target", Play::withAllLists),
            new NamedState("no free slot", Play::withNoFreeSlot),
            new NamedState("dirty with the present epoch, full", RefusedEdgeTest::fullOfDirty),
            new NamedState("behind a crash", RefusedEdgeTest::crashed),
            new NamedState("behind lose()", RefusedEdgeTest::lost),
            new NamedState("the greatest cache, both ends held", RefusedEdgeTest::greatest));
    }

    private static EpochCache fullOfDirty() {
        EpochCache x = new EpochCache(2);
        x.write(0, -1);
        x.write(15, -1);
        return x;
    }

    private static EpochCache crashed() {
        EpochCache x = fullOfDirty();
        x.flush();
        x.tick();
        x.write(0, 9);
        x.crash();
        return x;
    }

    private static EpochCache lost() {
        EpochCache x = crashed();
        x.lose();
        return x;
    }

    private static EpochCache greatest() {
        EpochCache x = Play.reads(7, 0, 15, 1, 14, 0, 15);
        x.write(0, LEAST);
        x.flush();
        x.write(15, GREATEST);
        return x;
    }

    // The calls

    private static void refusedReads(NamedState state) {
        for (int block : Play.NO_BLOCKS) {
            dueNothingDone("Promise 2: 0, and nothing is done", "read(" + block + ")", state, x -> x.read(block), 0);
        }
    }

    private static void refusedWrites(NamedState state) {
        int[] numbers = {LEAST, -1, 0, 7, GREATEST};
        for (int block : Play.NO_BLOCKS) {
            for (int number : numbers) {
                dueNothingDone("Promise 3: -1, and nothing is done", "write(" + block + ", " + number + ")",
                    state, x -> x.write(block, number), -1);
            }
        }
    }

    private static void refusedQuestions(NamedState state) {
        for (int block : Play.NO_BLOCKS) {
            dueNothingDone("Promise 10: none such", "says(" + block + ")", state, x -> x.says(block), 0);
            dueNothingDone("Promise 11: none such", "stored(" + block + ")", state, x -> x.stored(block), 0);
            dueNothingDone("Promise 12: none such", "slot(" + block + ")", state, x -> x.slot(block), -1);
            dueNothingDone("Promise 13: none such", "named(" + block + ")", state, x -> x.named(block), -1);
            dueNothingDone("Promise 14: none such", "epoch(" + block + ")", state, x -> x.epoch(block), -1);
            dueNothingDone("Promise 15: none such", "list(" + block + ")", state, x -> x.list(block), 0);
        }
    }

    private static void refusedMembers(NamedState state) {
        int[] noLists = {LEAST, -1, 0, 5, GREATEST};
        for (int list : noLists) {
            dueNothingDone("Promise 16: no such list", "member(" + list + ", 0)", state, x -> x.member(list, 0), -1);
        }
        int[] noPlaces = {LEAST, -1, 7, 16, GREATEST};
        for (int k : noPlaces) {
            for (int list = 1; list <= 4; list++) {
                int asked = list;
                dueNothingDone("Promise 16: no such place", "member(" + list + ", " + k + ")",
                    state, x -> x.member(asked, k), -1);
            }
        }
    }

    private static void questions(NamedState state) {
        EpochCache fresh = state.state().make();
        int hit = fresh.hit() ? 1 : 0;
        dueNothingDone("Promise 9: a question", "hit()", state, x -> x.hit() ? 1 : 0, hit);
        dueNothingDone("Promise 17: a question", "target()", state, EpochCache::target, fresh.target());
        dueNothingDone("Promise 18: a question", "free()", state, EpochCache::free, fresh.free());
        dueNothingDone("Promise 19: a question", "drained()", state, EpochCache::drained, fresh.drained());
        for (int block = 0; block < 16; block += 15) {
            int b = block;
            dueNothingDone("Promise 10: no access", "says(" + b + ")", state, x -> x.says(b), fresh.says(b));
            dueNothingDone("Promise 11: a question", "stored(" + b + ")", state, x -> x.stored(b), fresh.stored(b));
            dueNothingDone("Promise 12: a question", "slot(" + b + ")", state, x -> x.slot(b), fresh.slot(b));
            dueNothingDone("Promise 13: a question", "named(" + b + ")", state, x -> x.named(b), fresh.named(b));
            dueNothingDone("Promise 14: a question", "epoch(" + b + ")", state, x -> x.epoch(b), fresh.epoch(b));
            dueNothingDone("Promise 15: a question", "list(" + b + ")", state, x -> x.list(b), fresh.list(b));
        }
    }

    private static void ticksThatFindNone() {
        State clean = () -> {
            EpochCache x = Play.reads(2, 0, 1);
            x.flush();
            return x;
        };
        State presentEpoch = () -> {
            EpochCache x = new EpochCache(2);
            x.flush();
            x.write(0, 5);
            return x;
        };
        dueTickFindsNone("a new object", () -> new EpochCache(2));
        dueTickFindsNone("all clean", clean);
        dueTickFindsNone("the present epoch only", presentEpoch);
    }

    private static void dueTickFindsNone(String name, State state) {
        dueNothingDone("Promise 5: -1 when there is none", "tick()", new NamedState(name, state), EpochCache::tick, -1);
    }

    // What "nothing is done" means

    private static void dueNothingDone(String promise, String text, NamedState state, Call call, int want) {
        Check.about(promise + ", " + text + ", " + state.name());
        EpochCache x = state.state().make();
        String before = Play.view(x);
        Check.due("the answer", call.on(x), want);
        Check.due("all questions behind it", Play.view(x), before);
        EpochCache with = state.state().make();
        call.on(with);
        EpochCache without = state.state().make();
        Check.due("all calls behind it", goOn(with), goOn(without));
    }

    /** Calls that bring out what no question tells, the present epoch before all. */
    private static String goOn(EpochCache x) {
        List<Integer> answers = new ArrayList<>();
        answers.add(x.write(6, 60));
        answers.add(x.epoch(6));
        answers.add(x.flush());
        answers.add(x.read(0));
        answers.add(x.hit() ? 1 : 0);
        answers.add(x.tick());
        answers.add(x.write(15, 61));
        answers.add(x.crash());
        answers.add(x.read(7));
        answers.add(x.write(2, 62));
        answers.add(x.detach());
        return answers + Play.view(x);
    }
}
