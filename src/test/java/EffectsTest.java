import java.util.ArrayList;
import java.util.Comparator;
import java.util.HashSet;
import java.util.List;

/**
 * From each of many states every call is made, on an object of its own: it is to change what the document says, and
 * nothing else. So each term is looked at in each call that uses it: a flush in flush(), in giving up and for a new
 * slot; a drain in tick(), in detach() and in giving up; an access in read and in write; the journal in all of them.
 */
public final class EffectsTest {
    private static final int STATES = 700;
    private static final int SHOWN_FAULTS = 20;
    private static final int NUMBER = 4711;

    /** A call whose answer is an int. */
    private interface Call {
        int on(EpochCache x);
    }

    private record Done(int answer, Look look) {
    }

    public static void main(String[] args) {
        for (int seed = 0; seed < STATES && Check.wrong() < SHOWN_FAULTS; seed++) {
            Start start = new Start(seed);
            Look before = start.look();
            termsHold(start, before);
            sameCallsSameAnswers(start, before);
            flush(start, before);
            tick(start, before);
            detach(start, before);
            lose(start, before);
            crash(start, before);
            for (int block = 0; block < Look.STORE; block++) {
                Look read = read(start, before, block);
                write(start, read, block);
            }
            crashBehindFlush(start);
        }
        Check.finish("EffectsTest");
    }

    private static void about(String what, Start start) {
        Check.about(what + ", seed " + start.seed + ", C = " + start.capacity);
    }

    private static Done play(Start start, Call call) {
        EpochCache x = start.make();
        int answer = call.on(x);
        return new Done(answer, Look.last(x, start.capacity));
    }

    private static void due(Done done, int answer, Look want) {
        Check.due("the answer", done.answer, answer);
        want.dueIn(done.look);
    }

    // What holds in every state

    private static void termsHold(Start start, Look look) {
        about("Terms, in every state", start);
        Check.due("at most C are held", look.held().size() <= start.capacity, true);
        Check.due("the target is 0 .. C", look.target >= 0 && look.target <= start.capacity, true);
        dueSlots("slot", look.slot, start.capacity);
        dueSlots("named", look.named, start.capacity);
        for (int block = 0; block < Look.STORE; block++) {
            int list = look.listOf(block);
            Check.due("held just in R1 and R2: " + block, look.isHeld(block), list == Look.R1 || list == Look.R2);
            if (look.isDirty(block)) {
                dueDirty(look, block);
            } else {
                Check.due("not dirty, so it says what is stored: " + block, look.says[block], look.stored[block]);
            }
        }
        List<Integer> all = new ArrayList<>();
        look.lists.forEach(all::addAll);
        Check.due("each block is in one list at most", all.size(), new HashSet<>(all).size());
    }

    private static void dueSlots(String question, int[] slots, int capacity) {
        List<Integer> seen = new ArrayList<>();
        for (int slot : slots) {
            Check.due(question + " answers -1 or a slot", slot >= -1 && slot < 2 * capacity, true);
            if (slot != -1) {
                seen.add(slot);
            }
        }
        Check.due("one block a slot by " + question, seen.size(), new HashSet<>(seen).size());
    }

    private static void dueDirty(Look look, int block) {
        Check.due("dirty, so held: " + block, look.isHeld(block), true);
        Check.due("no epoch above the present one: " + block, look.epoch[block] <= look.present, true);
        if (look.epoch[block] < look.present) {
            Check.due("can come to the store, so it is named: " + block, look.named[block], look.slot[block]);
        }
    }

    private static void sameCallsSameAnswers(Start start, Look before) {
        about("LANGUAGE.md, rule 13: the same calls give the same answers", start);
        before.dueIn(start.look());
    }

    // Promises 4 to 8

    private static void flush(Start start, Look before) {
        about("Promise 4, flush()", start);
        Look want = before.copy();
        want.flush();
        due(play(start, EpochCache::flush), before.present + 1, want);
    }

    private static void tick(Start start, Look before) {
        about("Promise 5, tick()", start);
        Look want = before.copy();
        int first = firstOfLesserEpochs(before);
        if (first != -1) {
            want.drain(first);
        }
        due(play(start, EpochCache::tick), first, want);
    }

    private static int firstOfLesserEpochs(Look look) {
        int first = -1;
        for (int block = 0; block < Look.STORE; block++) {
            boolean counts = look.isDirty(block) && look.epoch[block] != look.present;
            if (counts && (first == -1 || look.epoch[block] < look.epoch[first])) {
                first = block;
            }
        }
        return first;
    }

    private static void detach(Start start, Look before) {
        about("Promise 6, detach()", start);
        Look want = before.copy();
        want.drainThrough(want.present);
        want.holdNone();
        want.emptyLists();
        want.writeJournal();
        due(play(start, EpochCache::detach), before.dirtyCount(), want);
    }

    private static void lose(Start start, Look before) {
        about("Promise 8, lose()", start);
        Look want = before.copy();
        want.holdNone();
        want.emptyLists();
        want.writeJournal();
        want.present = 0;
        due(play(start, EpochCache::lose), before.dirtyCount(), want);
    }

    /** What the journal keeps beside the slots no question tells: see crashBehindFlush() for that. */
    private static void crash(Start start, Look before) {
        about("Promise 7, crash()", start);
        Done done = play(start, EpochCache::crash);
        Look want = before.copy();
        System.arraycopy(before.named, 0, want.slot, 0, Look.STORE);
        System.arraycopy(done.look.epoch, 0, want.epoch, 0, Look.STORE);
        System.arraycopy(done.look.says, 0, want.says, 0, Look.STORE);
        onlyR1(want);
        due(done, want.held().size(), want);
        termsHold(start, done.look);
    }

    private static void onlyR1(Look want) {
        want.emptyLists();
        want.list(Look.R1).addAll(want.held());
        want.list(Look.R1).sort(Comparator.comparingInt(block -> want.slot[block]));
    }

    // Promises 2 and 3

    private static Look read(Start start, Look before, int block) {
        about("Promise 2, read(" + block + ")", start);
        Done done = play(start, x -> x.read(block));
        int gone = gone(before, done.look, block);
        Look want = before.copy();
        want.hit = before.isHeld(block);
        want.target = targetBehind(before, block);
        if (gone != -1) {
            giveUp(want, gone);
        }
        if (!want.hit) {
            want.slot[block] = newSlot(want);
            want.says[block] = want.stored[block];
        }
        want.lists.clear();
        want.lists.addAll(done.look.lists);
        dueListsBehindAccess(before, done.look, block, gone);
        due(done, want.says[block], want);
        return done.look;
    }

    /** A write is the same access as a read; then its number comes into another new slot. */
    private static void write(Start start, Look read, int block) {
        about("Promise 3, write(" + block + ", " + NUMBER + ")", start);
        Look want = read.copy();
        want.slot[block] = newSlot(want);
        want.says[block] = NUMBER;
        want.epoch[block] = want.present;
        due(play(start, x -> x.write(block, NUMBER)), want.slot[block], want);
    }

    /** The block that is held no longer; none, or the oldest of R1 or of R2. */
    private static int gone(Look before, Look after, int block) {
        List<Integer> gone = before.held();
        gone.removeAll(after.held());
        boolean full = before.held().size() == before.capacity;
        Check.due("how many are given up", gone.size(), full && !before.isHeld(block) ? 1 : 0);
        return gone.isEmpty() ? -1 : gone.get(0);
    }

    private static void giveUp(Look want, int gone) {
        int epoch = want.epoch[gone];
        if (want.isDirty(gone)) {
            if (epoch == want.present) {
                want.flush();
            }
            want.drainThrough(epoch);
        }
        want.holdNoLonger(gone);
    }

    private static int newSlot(Look want) {
        if (want.freeSlots().isEmpty()) {
            want.flush();
        }
        return want.freeSlots().get(0);
    }

    private static int targetBehind(Look before, int block) {
        int g1 = before.list(Look.G1).size();
        int g2 = before.list(Look.G2).size();
        if (before.listOf(block) == Look.G1) {
            return Math.min(before.capacity, before.target + Math.max(1, g2 / g1));
        }
        if (before.listOf(block) == Look.G2) {
            return Math.max(0, before.target - Math.max(1, g1 / g2));
        }
        return before.target;
    }

    // The lists behind an access

    private static void dueListsBehindAccess(Look before, Look after, int block, int gone) {
        boolean stranger = before.listOf(block) == 0;
        List<Integer> into = after.list(stranger ? Look.R1 : Look.R2);
        Check.due("the youngest of its list", youngest(into), block);
        int forgetful = stranger ? listThatForgets(before) : 0;
        for (int list = Look.R1; list <= Look.G2; list++) {
            List<Integer> was = without(before.list(list), block, gone);
            if (list == forgetful) {
                was.remove(0);
            }
            Check.due("the others of list " + list, without(after.list(list), block, gone).toString(), was.toString());
        }
        if (gone != -1) {
            dueListOfGone(before, after, block, gone);
        }
    }

    private static int listThatForgets(Look before) {
        int g1 = before.list(Look.G1).size();
        int recent = before.list(Look.R1).size() + g1;
        int all = recent + before.list(Look.R2).size() + before.list(Look.G2).size();
        if (recent == before.capacity) {
            return g1 > 0 ? Look.G1 : 0;
        }
        return all == 2 * before.capacity ? Look.G2 : 0;
    }

    private static void dueListOfGone(Look before, Look after, int block, int gone) {
        // Where R1 has C blocks there is none in G1, and what a stranger drives out is not remembered.
        boolean forgotten = before.listOf(block) == 0 && before.list(Look.R1).size() == before.capacity;
        int from = forgotten || r1Gives(before, after.target, block) ? Look.R1 : Look.R2;
        int ghosts = from == Look.R1 ? Look.G1 : Look.G2;
        Check.due("the oldest of its list is given up", gone, before.list(from).get(0));
        Check.due("remembered", after.listOf(gone), forgotten ? 0 : ghosts);
        if (!forgotten) {
            Check.due("the youngest that is remembered", youngest(after.list(ghosts)), gone);
        }
    }

    private static boolean r1Gives(Look before, int target, int block) {
        int r1 = before.list(Look.R1).size();
        return r1 > 0 && (r1 > target || r1 == target && before.listOf(block) == Look.G2);
    }

    private static int youngest(List<Integer> list) {
        return list.isEmpty() ? -1 : list.get(list.size() - 1);
    }

    private static List<Integer> without(List<Integer> list, int block, int other) {
        List<Integer> rest = new ArrayList<>(list);
        rest.removeIf(member -> member == block || member == other);
        return rest;
    }

    // What the journal keeps: a crash brings back the state at the flush, whatever came since

    private static void crashBehindFlush(Start start) {
        Look flushed = play(start, EpochCache::flush).look;
        dueCrash(start, flushed, "nothing", x -> 0);
        dueCrash(start, flushed, "tick()", EpochCache::tick);
        for (int block = 0; block < Look.STORE; block++) {
            int b = block;
            dueCrash(start, flushed, "read(" + b + ")", x -> x.read(b));
            dueCrash(start, flushed, "write(" + b + ", " + NUMBER + ")", x -> x.write(b, NUMBER));
        }
    }

    private static void dueCrash(Start start, Look flushed, String text, Call since) {
        about("Promise 7, flush(), " + text + ", crash()", start);
        Look lost = play(start, x -> x.flush() + since.on(x)).look;
        if (lost.present != flushed.present) {
            return;
        }
        Look want = flushed.copy();
        System.arraycopy(lost.stored, 0, want.stored, 0, Look.STORE);
        for (int block = 0; block < Look.STORE; block++) {
            want.says[block] = want.isHeld(block) ? flushed.says[block] : lost.stored[block];
        }
        onlyR1(want);
        want.drained = lost.drained;
        want.hit = lost.hit;
        Done done = play(start, x -> crashBehind(x, since));
        due(done, flushed.held().size(), want);
    }

    private static int crashBehind(EpochCache x, Call since) {
        x.flush();
        since.on(x);
        return x.crash();
    }
}
