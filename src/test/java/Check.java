/** Counts and prints the answers that are not as due; every test of the project ends by finish(). */
final class Check {
    private static String about = "";
    private static int cases = 0;
    private static int wrong = 0;
    private static int asked = 0;

    static {
        Thread.setDefaultUncaughtExceptionHandler((thread, problem) -> {
            System.out.println(about + "threw " + problem);
            problem.printStackTrace();
            System.exit(1);
        });
    }

    private Check() {
    }

    /** Names the promise or term, and the case of it, that the answers from here on belong to. */
    static void about(String sentenceAndCase) {
        cases++;
        about = sentenceAndCase + " | ";
    }

    static void due(String what, String got, String want) {
        asked++;
        if (!got.equals(want)) {
            wrong++;
            System.out.println(about + what + " answered " + got + ", due is " + want);
        }
    }

    static void due(String what, long got, long want) {
        asked++;
        if (got != want) {
            wrong++;
            System.out.println(about + what + " answered " + got + ", due is " + want);
        }
    }

    static void due(String what, boolean got, boolean want) {
        due(what, got ? 1 : 0, want ? 1 : 0);
    }

    /** Compares a list of the cache, the oldest first, and asks that nothing is behind its end. */
    static void dueList(String what, EpochCache cache, int list, int... want) {
        for (int k = 0; k < want.length; k++) {
            due(what + ": member(" + list + ", " + k + ")", cache.member(list, k), want[k]);
        }
        due(what + ": member(" + list + ", " + want.length + ")", cache.member(list, want.length), -1);
    }

    static int wrong() {
        return wrong;
    }

    static void finish(String test) {
        String counted = cases == 0 ? "" : cases + " cases, ";
        System.out.println(test + ": " + counted + asked + " answers, " + wrong + " not as due");
        if (wrong != 0) {
            System.exit(1);
        }
    }
}
