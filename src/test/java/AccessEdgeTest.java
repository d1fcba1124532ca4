/** The boundary cases of the terms "the lists", "to replace" and "an access", each by a test of its own. */
public final class AccessEdgeTest {
    public static void main(String[] args) {
        lists();
        targetAtFirst();
        replaceFromR1();
        replaceFromR2();
        replaceWithEmptyR1();
        hits();
        targetGrows();
        targetGrowsAtMostToC();
        targetShrinks();
        targetShrinksAtMostToZero();
        strangerWithR1AndG1AtC();
        strangerWithR1AndG1BelowC();
        smallestCache();
        behindMiss();
        Check.finish("AccessEdgeTest");
    }

    // The lists

    private static void lists() {
        Scene.of("Terms, the lists: empty at first", 3).has("[] [] [] []", 0);
        Scene.of("Terms, the lists: from the oldest to the youngest", 3, 2, 0, 1).has("[2, 0, 1] [] [] []", 0);
        Scene.of("Terms, the lists: what comes into R2 is its youngest", 3, 0, 1, 2, 1, 0).has("[2] [1, 0] [] []", 0);
        Scene.of("Terms, the lists: what comes into G1 is its youngest", 3, 0, 0, 1, 2, 3)
            .has("[2, 3] [0] [1] []", 0).read(4).has("[3, 4] [0] [2] []", 0);
        Scene.of("Terms, the lists: what comes into G2 is its youngest", 2, 0, 0, 1, 1, 2, 2)
            .has("[] [1, 2] [] [0]", 0).read(3).has("[3] [2] [] [0, 1]", 0);
        oneListAtMost();
    }

    private static void oneListAtMost() {
        Check.about("Terms, the lists: each block is in one at most, and list() and member() tell the same");
        for (int blocks = 1; blocks <= 7; blocks++) {
            EpochCache x = Play.reads(blocks, 0, 0, 1, 1, 2, 3, 4, 2, 5, 6, 3, 0, 7, 8, 9, 1, 2, 10, 11, 5, 0);
            int[] seen = new int[16];
            int members = 0;
            for (int list = 1; list <= 4; list++) {
                for (int k = 0; k < 16 && x.member(list, k) != -1; k++) {
                    int block = x.member(list, k);
                    seen[block]++;
                    members++;
                    Check.due("list(" + block + ")", x.list(block), list);
                    Check.due("held just in R1 and R2: " + block, x.slot(block) >= 0, list <= 2);
                }
            }
            Check.due("at most 2 * C are remembered", members <= 2 * blocks, true);
            for (int block = 0; block < 16; block++) {
                Check.due("times that " + block + " is in a list", seen[block], x.list(block) == 0 ? 0 : 1);
            }
        }
    }

    private static void targetAtFirst() {
        for (int blocks = 1; blocks <= 7; blocks++) {
            Scene.of("Terms, the target: at first 0", blocks).has("[] [] [] []", 0);
        }
    }

    // To replace

    private static void replaceFromR1() {
        Scene.of("Terms, to replace: |R1| above the target, b in no list", 2, 0, 0, 1)
            .has("[1] [0] [] []", 0).read(2).has("[2] [0] [1] []", 0);
        Scene.of("Terms, to replace: |R1| above the target, b in G1", 3, 0, 0, 1, 2, 3)
            .has("[2, 3] [0] [1] []", 0).read(1).has("[3] [0, 1] [2] []", 1);
        Scene.of("Terms, to replace: |R1| above the target, b in G2", 2, 0, 0, 1, 2, 1)
            .has("[2] [1] [] [0]", 1).read(0).has("[] [1, 0] [2] []", 0);
        Scene.of("Terms, to replace: |R1| equal to the target 1, b in G2", 3, 0, 1, 0, 2, 3, 1, 2)
            .has("[3] [1, 2] [] [0]", 2).read(0).has("[] [1, 2, 0] [3] []", 1);
        Scene.of("Terms, to replace: |R1| equal to the target 2, b in G2", 3, 0, 0, 1, 1, 2, 3, 2, 4, 5, 3)
            .has("[4, 5] [3] [] [0, 1, 2]", 3).read(0).has("[5] [3, 0] [4] [1, 2]", 2);
    }

    private static void replaceFromR2() {
        Scene.of("Terms, to replace, otherwise: |R1| equal to the target, b in no list", 2, 0, 1, 0, 2, 1)
            .has("[2] [1] [] [0]", 1).read(3).has("[2, 3] [] [] [0, 1]", 1);
        Scene.of("Terms, to replace, otherwise: |R1| equal to the target, b in G1", 2, 0, 0, 1, 2)
            .has("[2] [0] [1] []", 0).read(1).has("[2] [1] [] [0]", 1);
        Scene.of("Terms, to replace, otherwise: |R1| below the target, b in no list", 3, 0, 0, 1, 2, 3, 1, 2)
            .has("[3] [1, 2] [] [0]", 2).read(4).has("[3, 4] [2] [] [0, 1]", 2);
        Scene.of("Terms, to replace, otherwise: |R1| below the target, b in G1", 3, 0, 1, 1, 2, 3, 0)
            .has("[3] [1, 0] [2] []", 1).read(2).has("[3] [0, 2] [] [1]", 2);
        Scene.of("Terms, to replace, otherwise: |R1| below the target, b in G2", 3, 0, 0, 1, 2, 3, 3, 4, 2, 5, 5, 1)
            .has("[4] [5, 1] [] [0, 3, 2]", 3).read(2).has("[4] [1, 2] [] [0, 3, 5]", 2);
    }

    private static void replaceWithEmptyR1() {
        Scene.of("Terms, to replace, otherwise: R1 empty, the target 0, b in no list", 2, 0, 0, 1, 1)
            .has("[] [0, 1] [] []", 0).read(2).has("[2] [1] [] [0]", 0);
        Scene.of("Terms, to replace, otherwise: R1 empty, the target 0, b in G2", 2, 0, 0, 1, 1, 2, 2)
            .has("[] [1, 2] [] [0]", 0).read(0).has("[] [2, 0] [] [1]", 0);
        Scene.of("Terms, to replace, otherwise: R1 empty, the target above 0, b in no list", 2, 0, 0, 1, 2, 1, 2)
            .has("[] [1, 2] [] [0]", 1).read(3).has("[3] [2] [] [0, 1]", 1);
        Scene.of("Terms, to replace, otherwise: R1 empty, b in G1", 2, 0, 1, 0, 2, 2)
            .has("[] [0, 2] [1] []", 0).read(1).has("[] [2, 1] [] [0]", 1);
        Scene.of("Terms, to replace, otherwise: R1 empty, the target above 0, b in G2", 3, 0, 1, 1, 2, 3, 0, 3, 2)
            .has("[] [0, 3, 2] [] [1]", 2).read(1).has("[] [3, 2, 1] [] [0]", 1);
    }

    // An access

    private static void hits() {
        Scene.of("Terms, an access: a hit in R1, its only block", 2, 0).read(0).has("[] [0] [] []", 0);
        Scene.of("Terms, an access: a hit in R1, the oldest", 3, 0, 1, 2).read(0).has("[1, 2] [0] [] []", 0);
        Scene.of("Terms, an access: a hit in R1, the youngest", 3, 0, 1, 2).read(2).has("[0, 1] [2] [] []", 0);
        Scene.of("Terms, an access: a hit in R2, the oldest", 2, 0, 0, 1, 1).read(0).has("[] [1, 0] [] []", 0);
        Scene.of("Terms, an access: a hit in R2, the youngest", 2, 0, 0, 1, 1).read(1).has("[] [0, 1] [] []", 0);
        Scene.of("Terms, an access: a hit by a write", 2, 0, 1).write(0, 5).has("[1] [0] [] []", 0);
        Scene full = Scene.of("Terms, an access: a hit in a full cache gives nothing up", 2, 0, 0, 1, 2, 1);
        full.read(2).has("[] [1, 2] [] [0]", 1);
        Check.due("held", Play.held(full.cache), 2);
    }

    private static void targetGrows() {
        Scene.of("Terms, an access, b in G1: |G2| / |G1| = 0 / 1 is 0, so 1", 3, 0, 0, 1, 2, 3)
            .has("[2, 3] [0] [1] []", 0).read(1).has("[3] [0, 1] [2] []", 1);
        Scene.of("Terms, an access, b in G1: 1 / 2 is 0, so 1", 3, 0, 0, 1, 1, 2, 2, 3, 4, 5)
            .has("[5] [1, 2] [3, 4] [0]", 0).read(3).has("[5] [2, 3] [4] [0, 1]", 1);
        Scene.of("Terms, an access, b in G1: 1 / 1 is 1", 2, 0, 0, 1, 1, 2, 3)
            .has("[3] [1] [2] [0]", 0).read(2).has("[3] [2] [] [0, 1]", 1);
        Scene.of("Terms, an access, b in G1: 2 / 2 is 1", 4, 0, 0, 1, 1, 2, 2, 3, 4, 3, 5, 6, 7)
            .has("[6, 7] [2, 3] [4, 5] [0, 1]", 1).read(4).has("[6, 7] [3, 4] [5] [0, 1, 2]", 2);
        Scene.of("Terms, an access, b in G1: 3 / 2 is 1, rounded down", 5, 0, 0, 1, 1, 2, 2, 3, 4, 5, 3, 4, 6, 7, 8, 9)
            .has("[7, 8, 9] [3, 4] [5, 6] [0, 1, 2]", 2).read(5).has("[7, 8, 9] [4, 5] [6] [0, 1, 2, 3]", 3);
        Scene.of("Terms, an access, b in G1: 2 / 1 is 2", 3, 0, 0, 1, 1, 2, 2, 3, 3, 4, 5)
            .has("[5] [2, 3] [4] [0, 1]", 0).read(4).has("[5] [3, 4] [] [0, 1, 2]", 2);
        Scene.of("Terms, an access, b in G1: 5 / 2 is 2, rounded down", 7,
            0, 0, 1, 1, 2, 2, 3, 3, 4, 5, 6, 7, 4, 5, 8, 9, 6, 10, 11, 12, 13)
            .has("[9, 10, 11, 12, 13] [5, 6] [7, 8] [0, 1, 2, 3, 4]", 4)
            .read(7).has("[9, 10, 11, 12, 13] [6, 7] [8] [0, 1, 2, 3, 4, 5]", 6);
    }

    private static void targetGrowsAtMostToC() {
        Scene.of("Terms, an access, b in G1: the target comes to C just so", 3, 0, 0, 1, 1, 2, 3, 2, 4, 5)
            .has("[4, 5] [2] [3] [0, 1]", 1).read(3).has("[4, 5] [3] [] [0, 1, 2]", 3);
        Scene.of("Terms, an access, b in G1: from C - 1 more by 2, but at most C", 3, 0, 1, 2, 0, 3, 2, 1, 4, 5, 3, 2)
            .has("[5] [3, 2] [4] [0, 1]", 2).read(4).has("[5] [2, 4] [] [0, 1, 3]", 3);
        Scene.of("Terms, an access, b in G1: from C - 2 more by 3, but at most C", 4,
            0, 0, 1, 1, 2, 3, 4, 2, 3, 5, 6, 7)
            .has("[5, 6, 7] [3] [4] [0, 1, 2]", 2).read(4).has("[5, 6, 7] [4] [] [0, 1, 2, 3]", 4);
        Scene.of("Terms, an access, b in G1: the target is C already", 6,
            0, 0, 1, 1, 2, 2, 3, 4, 5, 6, 3, 4, 7, 8, 9, 5, 10, 11, 6, 0, 7)
            .has("[9, 10, 11] [6, 0, 7] [8] [1, 2, 3, 4, 5]", 6)
            .read(8).has("[9, 10, 11] [0, 7, 8] [] [1, 2, 3, 4, 5, 6]", 6);
    }

    private static void targetShrinks() {
        Scene.of("Terms, an access, b in G2: |G1| / |G2| = 0 / 1 is 0, so 1", 3, 0, 0, 1, 2, 3, 1, 2)
            .has("[3] [1, 2] [] [0]", 2).read(0).has("[] [1, 2, 0] [3] []", 1);
        Scene.of("Terms, an access, b in G2: 1 / 2 is 0, so 1", 4, 0, 0, 1, 2, 3, 4, 1, 2, 5, 6)
            .has("[4, 5, 6] [2] [3] [0, 1]", 2).read(0).has("[5, 6] [2, 0] [3, 4] [1]", 1);
        Scene.of("Terms, an access, b in G2: 1 / 1 is 1", 4, 0, 0, 1, 2, 3, 4, 1, 5, 2)
            .has("[4, 5] [1, 2] [3] [0]", 2).read(0).has("[5] [1, 2, 0] [3, 4] []", 1);
        Scene.of("Terms, an access, b in G2: 2 / 2 is 1", 5, 0, 0, 1, 1, 2, 3, 4, 5, 2, 3, 6, 7, 8)
            .has("[6, 7, 8] [2, 3] [4, 5] [0, 1]", 2).read(0).has("[7, 8] [2, 3, 0] [4, 5, 6] [1]", 1);
        Scene.of("Terms, an access, b in G2: 3 / 2 is 1, rounded down", 6,
            0, 0, 1, 1, 2, 2, 3, 4, 5, 6, 3, 4, 7, 8, 9, 10)
            .has("[8, 9, 10] [2, 3, 4] [5, 6, 7] [0, 1]", 2).read(0).has("[9, 10] [2, 3, 4, 0] [5, 6, 7, 8] [1]", 1);
        Scene.of("Terms, an access, b in G2: 2 / 1 is 2", 6, 0, 0, 1, 2, 3, 4, 5, 6, 1, 2, 7, 8, 3)
            .has("[6, 7, 8] [1, 2, 3] [4, 5] [0]", 3).read(0).has("[7, 8] [1, 2, 3, 0] [4, 5, 6] []", 1);
        Scene.of("Terms, an access, b in G2: 5 / 2 is 2, rounded down", 7,
            0, 0, 1, 2, 3, 4, 5, 6, 7, 1, 2, 3, 4, 8, 9, 10, 5, 11, 0, 1, 12, 6, 13, 2, 3, 4, 5)
            .has("[12, 13] [6, 2, 3, 4, 5] [7, 8, 9, 10, 11] [0, 1]", 3)
            .read(0).has("[13] [6, 2, 3, 4, 5, 0] [7, 8, 9, 10, 11, 12] [1]", 1);
    }

    private static void targetShrinksAtMostToZero() {
        Scene.of("Terms, an access, b in G2: the target comes to 0 just so", 5, 0, 0, 1, 2, 3, 4, 5, 1, 2, 6, 7)
            .has("[5, 6, 7] [1, 2] [3, 4] [0]", 2).read(0).has("[6, 7] [1, 2, 0] [3, 4, 5] []", 0);
        Scene.of("Terms, an access, b in G2: from 1 less by 2, but at least 0", 4, 0, 1, 2, 2, 3, 4, 4, 0, 5, 6)
            .has("[5, 6] [4, 0] [1, 3] [2]", 1).read(2).has("[6] [4, 0, 2] [1, 3, 5] []", 0);
        Scene.of("Terms, an access, b in G2: from 2 less by 3, but at least 0", 6,
            0, 0, 1, 1, 2, 3, 4, 5, 6, 2, 3, 7, 8, 9)
            .has("[7, 8, 9] [1, 2, 3] [4, 5, 6] [0]", 2).read(0).has("[8, 9] [1, 2, 3, 0] [4, 5, 6, 7] []", 0);
        Scene.of("Terms, an access, b in G2: the target is 0 already, less by 1", 2, 0, 0, 1, 1, 2, 2)
            .has("[] [1, 2] [] [0]", 0).read(0).has("[] [2, 0] [] [1]", 0);
        Scene.of("Terms, an access, b in G2: the target is 0 already, less by 2", 3, 0, 1, 0, 2, 3, 3, 2, 4, 5)
            .has("[5] [3, 2] [1, 4] [0]", 0).read(0).has("[] [3, 2, 0] [1, 4, 5] []", 0);
    }

    private static void strangerWithR1AndG1AtC() {
        Scene.of("Terms, an access, b in none: |R1| + |G1| is C, |G1| is 1", 2, 0, 0, 1, 2)
            .has("[2] [0] [1] []", 0).read(3).has("[3] [0] [2] []", 0);
        Scene.of("Terms, an access, b in none: |R1| + |G1| is C, |G1| is C, R2 gives", 2, 0, 0, 1, 1, 2, 3, 0)
            .has("[] [1, 0] [2, 3] []", 0).read(4).has("[4] [0] [3] [1]", 0);
        Scene.of("Terms, an access, b in none: |R1| + |G1| is C, all have 2 * C: G2 forgets nothing", 2,
            0, 1, 0, 2, 2, 3)
            .has("[3] [2] [1] [0]", 0).read(4).has("[4] [2] [3] [0]", 0);
        Scene alone = Scene.of("Terms, an access, b in none: |R1| is C, G1 is empty", 3, 0, 1, 2);
        alone.has("[0, 1, 2] [] [] []", 0).read(3).has("[1, 2, 3] [] [] []", 0);
        Check.due("the oldest of R1 is given up", alone.cache.slot(0), -1);
        Check.due("and in no list", alone.cache.list(0), 0);
        Scene.of("Terms, an access, b in none: |R1| is C, G1 is empty, G2 forgets nothing", 2, 0, 1, 0, 2, 1, 3)
            .has("[2, 3] [] [] [0, 1]", 1).read(4).has("[3, 4] [] [] [0, 1]", 1);
        Scene.of("Terms, an access, b in none: |R1| is C and the target too", 1, 0, 0, 1, 0, 1, 2)
            .has("[2] [] [] [1]", 1).read(3).has("[3] [] [] [1]", 1);
    }

    private static void strangerWithR1AndG1BelowC() {
        Scene.of("Terms, an access, b in none: all four have none", 3).read(0).has("[0] [] [] []", 0);
        Scene few = Scene.of("Terms, an access, b in none: all four have C - 1: nothing goes", 3, 0, 0, 1);
        few.has("[1] [0] [] []", 0).read(2).has("[1, 2] [0] [] []", 0);
        Check.due("held", Play.held(few.cache), 3);
        Scene.of("Terms, an access, b in none: all four have C", 3, 0, 0, 1, 2)
            .has("[1, 2] [0] [] []", 0).read(3).has("[2, 3] [0] [1] []", 0);
        Scene.of("Terms, an access, b in none: all four have C, all in R2", 2, 0, 0, 1, 1)
            .has("[] [0, 1] [] []", 0).read(2).has("[2] [1] [] [0]", 0);
        Scene.of("Terms, an access, b in none: all four have 2 * C - 1: G2 forgets nothing", 2, 0, 0, 1, 2, 1)
            .has("[2] [1] [] [0]", 1).read(3).has("[2, 3] [] [] [0, 1]", 1);
        Scene forgets = Scene.of("Terms, an access, b in none: all four have 2 * C: the oldest of G2 goes", 2,
            0, 1, 0, 2, 2, 1, 3);
        forgets.has("[3] [1] [] [0, 2]", 1).read(4).has("[3, 4] [] [] [2, 1]", 1);
        Check.due("list(0)", forgets.cache.list(0), 0);
    }

    private static void smallestCache() {
        Scene.of("Terms, an access with C = 1: all cases by turns", 1)
            .read(0).has("[0] [] [] []", 0)
            .read(1).has("[1] [] [] []", 0)
            .read(1).has("[] [1] [] []", 0)
            .read(2).has("[2] [] [] [1]", 0)
            .read(1).has("[] [1] [2] []", 0)
            .read(2).has("[] [2] [] [1]", 1)
            .read(3).has("[3] [] [] [2]", 1)
            .read(2).has("[] [2] [3] []", 0)
            .read(4).has("[4] [] [] [2]", 0);
    }

    // Behind a miss

    private static void behindMiss() {
        Scene fromNone = Scene.of("Terms, behind a miss: b in none before", 1).write(0, 10).read(1);
        dueCleanBehindMiss(fromNone.has("[1] [] [] []", 0).cache, 0, 10);
        Scene fromG1 = Scene.of("Terms, behind a miss: b in G1 before", 2, 0, 0).write(1, 11).read(2);
        dueCleanBehindMiss(fromG1.has("[2] [0] [1] []", 0).cache, 1, 11);
        Scene fromG2 = Scene.of("Terms, behind a miss: b in G2 before", 2).write(0, 12).read(0).read(1).read(1).read(2);
        dueCleanBehindMiss(fromG2.has("[2] [1] [] [0]", 0).cache, 0, 12);
        Check.about("Terms, behind a miss: the number in the store, not one that was lost");
        EpochCache x = new EpochCache(1);
        x.write(3, 9);
        x.lose();
        dueCleanBehindMiss(x, 3, 0);
    }

    private static void dueCleanBehindMiss(EpochCache x, int block, int number) {
        Check.due("slot before", x.slot(block), -1);
        Check.due("stored before", x.stored(block), number);
        Check.due("read", x.read(block), number);
        Check.due("hit", x.hit(), false);
        Check.due("held", x.slot(block) >= 0, true);
        Check.due("clean", x.epoch(block), -1);
        Check.due("says", x.says(block), number);
    }
}
