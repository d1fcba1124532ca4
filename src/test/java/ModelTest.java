import java.util.ArrayList;
import java.util.Comparator;
import java.util.List;
import java.util.Map;
import java.util.Random;
import java.util.TreeMap;

/**
 * Long mixed runs of calls, each answer compared with that of a second, plain reading of the
 * document (Model), which shares no way of holding the state with EpochCache.
 */
public final class ModelTest {
    private static final int RUNS = 6000;
    private static final int CALLS = 512;
    private static final int SHOWN_FAULTS = 20;

    public static void main(String[] args) {
        for (int run = 0; run < RUNS && Check.wrong() < SHOWN_FAULTS; run++) {
            new Run(run).play();
        }
        Check.finish("ModelTest");
    }

    /** One object under test beside one model; the run's number is the seed, so a fault can be played again. */
    private static final class Run {
        private final int run;
        private final Random random;
        private final int blocks;
        private final int range;
        private final int ruin;
        private final EpochCache cache;
        private final Model model;

        Run(int run) {
            this.run = run;
            random = new Random(run);
            blocks = random.nextInt(10) - 1;
            range = 1 + random.nextInt(16);
            ruin = random.nextInt(4);
            cache = new EpochCache(blocks);
            model = new Model(blocks);
        }

        void play() {
            int wrongBefore = Check.wrong();
            for (int call = 0; call < CALLS && Check.wrong() == wrongBefore; call++) {
                if (random.nextInt(100) < 55) {
                    change(call);
                } else {
                    ask(call);
                }
            }
        }

        private int block() {
            int kind = random.nextInt(40);
            if (kind == 0) {
                return -1 - random.nextInt(3);
            }
            if (kind == 1) {
                return 16 + random.nextInt(3);
            }
            return random.nextInt(range);
        }

        private void change(int call) {
            int kind = random.nextInt(100);
            int b = block();
            if (kind < 45) {
                due(call, "read(" + b + ")", cache.read(b), model.read(b));
            } else if (kind < 80) {
                int number = random.nextInt(1000) - 300;
                due(call, "write(" + b + ", " + number + ")", cache.write(b, number), model.write(b, number));
            } else if (kind < 88) {
                due(call, "flush()", cache.flush(), model.flush());
            } else if (kind < 97) {
                due(call, "tick()", cache.tick(), model.tick());
            } else if (random.nextInt(4) < ruin) {
                ruin(call);
            }
        }

        private void ruin(int call) {
            switch (random.nextInt(5)) {
                case 0 -> due(call, "lose()", cache.lose(), model.lose());
                case 1 -> due(call, "detach()", cache.detach(), model.detach());
                default -> due(call, "crash()", cache.crash(), model.crash());
            }
        }

        private void ask(int call) {
            int b = block();
            int list = random.nextInt(7) - 1;
            int k = random.nextInt(9) - 1;
            switch (random.nextInt(11)) {
                case 0 -> due(call, "hit()", cache.hit() ? 1 : 0, model.hit ? 1 : 0);
                case 1 -> due(call, "says(" + b + ")", cache.says(b), model.says(b));
                case 2 -> due(call, "stored(" + b + ")", cache.stored(b), model.store.getOrDefault(b, 0));
                case 3 -> due(call, "slot(" + b + ")", cache.slot(b), Model.slotIn(model.held, b));
                case 4 -> due(call, "named(" + b + ")", cache.named(b), Model.slotIn(model.journal, b));
                case 5 -> due(call, "epoch(" + b + ")", cache.epoch(b), model.epoch(b));
                case 6 -> due(call, "list(" + b + ")", cache.list(b), model.list(b));
                case 7 -> due(call, "member(" + list + ", " + k + ")", cache.member(list, k), model.member(list, k));
                case 8 -> due(call, "target()", cache.target(), model.target);
                case 9 -> due(call, "free()", cache.free(), model.freeSlots().size());
                default -> due(call, "drained()", cache.drained(), model.drained);
            }
        }

        private void due(int call, String what, int got, int want) {
            Check.due("run " + run + " (" + blocks + " blocks), call " + call + ": " + what, got, want);
        }
    }

    /** Where a block is: its slot, and whether it is dirty, with which epoch. */
    private record Place(int slot, boolean dirty, int epoch) {
    }

    private static final class Model {
        final int c;
        final Map<Integer, Integer> store = new TreeMap<>();
        final Map<Integer, Integer> numbers = new TreeMap<>();
        Map<Integer, Place> held = new TreeMap<>();
        Map<Integer, Place> journal = new TreeMap<>();
        final List<Integer> r1 = new ArrayList<>();
        final List<Integer> r2 = new ArrayList<>();
        final List<Integer> g1 = new ArrayList<>();
        final List<Integer> g2 = new ArrayList<>();
        final List<List<Integer>> lists = List.of(r1, r2, g1, g2);
        int target;
        int present;
        int drained;
        boolean hit;

        Model(int blocks) {
            c = blocks < 1 ? 1 : blocks > 7 ? 7 : blocks;
            for (int b = 0; b < 16; b++) {
                store.put(b, 0);
            }
        }

        int read(int b) {
            if (!store.containsKey(b)) {
                return 0;
            }
            access(b);
            return says(b);
        }

        int write(int b, int number) {
            if (!store.containsKey(b)) {
                return -1;
            }
            access(b);
            int slot = newSlot();
            numbers.put(slot, number);
            held.put(b, new Place(slot, true, present));
            return slot;
        }

        int flush() {
            journal = new TreeMap<>(held);
            present++;
            return present;
        }

        int tick() {
            List<Integer> old = dirtyInOrder();
            old.removeIf(b -> held.get(b).epoch == present);
            if (old.isEmpty()) {
                return -1;
            }
            drain(old.get(0));
            return old.get(0);
        }

        int detach() {
            List<Integer> dirty = dirtyInOrder();
            dirty.forEach(this::drain);
            held.clear();
            clearLists();
            journal = new TreeMap<>();
            return dirty.size();
        }

        int crash() {
            held = new TreeMap<>(journal);
            clearLists();
            r1.addAll(held.keySet());
            r1.sort(Comparator.comparingInt(b -> held.get(b).slot));
            return held.size();
        }

        int lose() {
            int dirty = dirtyInOrder().size();
            held.clear();
            journal = new TreeMap<>();
            clearLists();
            present = 0;
            return dirty;
        }

        int says(int b) {
            return held.containsKey(b) ? numbers.get(held.get(b).slot) : store.getOrDefault(b, 0);
        }

        int list(int b) {
            for (List<Integer> list : lists) {
                if (list.contains(b)) {
                    return lists.indexOf(list) + 1;
                }
            }
            return 0;
        }

        int member(int list, int k) {
            boolean there = list >= 1 && list <= 4 && k >= 0 && k < lists.get(list - 1).size();
            return there ? lists.get(list - 1).get(k) : -1;
        }

        static int slotIn(Map<Integer, Place> places, int b) {
            return places.containsKey(b) ? places.get(b).slot : -1;
        }

        int epoch(int b) {
            return isDirty(b) ? held.get(b).epoch : -1;
        }

        boolean isDirty(int b) {
            return held.containsKey(b) && held.get(b).dirty;
        }

        List<Integer> freeSlots() {
            List<Integer> free = new ArrayList<>();
            for (int slot = 0; slot < 2 * c; slot++) {
                free.add(slot);
            }
            held.values().forEach(p -> free.remove((Integer) p.slot));
            journal.values().forEach(p -> free.remove((Integer) p.slot));
            return free;
        }

        private List<Integer> dirtyInOrder() {
            List<Integer> dirty = new ArrayList<>(held.keySet());
            dirty.removeIf(b -> !isDirty(b));
            dirty.sort(Comparator.<Integer>comparingInt(b -> held.get(b).epoch).thenComparingInt(b -> b));
            return dirty;
        }

        private int newSlot() {
            if (freeSlots().isEmpty()) {
                flush();
            }
            return freeSlots().get(0);
        }

        private void drain(int b) {
            store.put(b, says(b));
            held.put(b, new Place(held.get(b).slot, false, -1));
            drained++;
        }

        private void clearLists() {
            lists.forEach(List::clear);
            target = 0;
        }

        private void access(int b) {
            hit = r1.contains(b) || r2.contains(b);
            if (hit) {
                r1.remove((Integer) b);
                r2.remove((Integer) b);
                r2.add(b);
                return;
            }
            if (g1.contains(b)) {
                target = Math.min(c, target + Math.max(1, g2.size() / g1.size()));
                replace(b);
                g1.remove((Integer) b);
                r2.add(b);
            } else if (g2.contains(b)) {
                target = Math.max(0, target - Math.max(1, g1.size() / g2.size()));
                replace(b);
                g2.remove((Integer) b);
                r2.add(b);
            } else {
                missOfUnknown(b);
                r1.add(b);
            }
            int slot = newSlot();
            numbers.put(slot, store.get(b));
            held.put(b, new Place(slot, false, -1));
        }

        private void missOfUnknown(int b) {
            if (r1.size() + g1.size() == c) {
                if (g1.isEmpty()) {
                    giveUp(r1.remove(0));
                } else {
                    g1.remove(0);
                    replace(b);
                }
                return;
            }
            int all = r1.size() + r2.size() + g1.size() + g2.size();
            if (all >= c) {
                if (all == 2 * c) {
                    g2.remove(0);
                }
                replace(b);
            }
        }

        private void replace(int b) {
            if (!r1.isEmpty() && (r1.size() > target || (r1.size() == target && g2.contains(b)))) {
                int old = r1.remove(0);
                giveUp(old);
                g1.add(old);
            } else {
                int old = r2.remove(0);
                giveUp(old);
                g2.add(old);
            }
        }

        private void giveUp(int b) {
            if (isDirty(b) && held.get(b).epoch == present) {
                flush();
            }
            if (isDirty(b)) {
                int last = held.get(b).epoch;
                List<Integer> due = dirtyInOrder();
                due.removeIf(d -> held.get(d).epoch > last);
                due.forEach(this::drain);
            }
            held.remove(b);
        }
    }
}
