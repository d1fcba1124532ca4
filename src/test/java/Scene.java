/** A cache whose lists and target are looked at between accesses. */
final class Scene {
    final EpochCache cache;

    private Scene(EpochCache cache) {
        this.cache = cache;
    }

    static Scene of(String sentenceAndCase, int blocks, int... reads) {
        Check.about(sentenceAndCase);
        return new Scene(Play.reads(blocks, reads));
    }

    Scene has(String lists, int target) {
        Check.due("R1 R2 G1 G2", Play.lists(cache), lists);
        Check.due("target()", cache.target(), target);
        return this;
    }

    Scene read(int block) {
        cache.read(block);
        return this;
    }

    Scene write(int block, int number) {
        cache.write(block, number);
        return this;
    }
}
