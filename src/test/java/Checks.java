/** Runs tests, each of which tells the promise that it is of, and counts them by promise. */
final class Checks {
    private static final int PROMISES = 20;
    private static final int[] passed = new int[PROMISES + 1];
    private static final int[] failed = new int[PROMISES + 1];

    private Checks() {
    }

    /**
     * A test of its own, on a new house. A row is a call with its arguments, and behind " = " the answer that is due;
     * without that, the call must not throw. "20 * print 1" is a row twenty times, "each 0 63 colour # 0 0 0" one for
     * each number, "types ab" a type for each sign, and "rules black 0" these and an apply.
     */
    static void test(int promise, String sentence, String rows) {
        count(promise, sentence, new Calls().play(rows));
    }

    /** A test that finds out by itself what is wrong: null, if nothing is. */
    static void count(int promise, String sentence, String wrong) {
        if (wrong == null) {
            passed[promise]++;
        } else {
            failed[promise]++;
            System.out.println("promise " + promise + ", " + sentence + ": " + wrong);
        }
    }

    /** Ends the program: with exit code 1, if a test failed, or a promise from the first to the last has none. */
    static void end(int first, int last) {
        int right = 0;
        int wrong = 0;
        for (int promise = 1; promise <= PROMISES; promise++) {
            int tests = passed[promise] + failed[promise];
            if (tests == 0 && promise >= first && promise <= last) {
                count(promise, "tests", "there are none");
            } else if (tests > 0) {
                System.out.println("promise " + promise + ": " + tests + " tests, " + failed[promise] + " failed");
            }
            right += passed[promise];
            wrong += failed[promise];
        }
        System.out.println(right + " passed, " + wrong + " failed");
        System.exit(wrong == 0 ? 0 : 1);
    }
}
