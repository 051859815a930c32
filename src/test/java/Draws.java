/** The draws as the document tells them, to find seeds with which a run goes a wanted way. */
final class Draws {
    private Draws() {
    }

    static int next(int seed) {
        return (int) ((seed * 1103515245L + 12345L) % (1L << 31));
    }

    static int after(int seed, int draws) {
        int now = seed;
        for (int k = 0; k < draws; k++) {
            now = next(now);
        }
        return now;
    }

    /** The lowest seed with which the draws go as wanted, told as n, drawn, n, drawn and so on. */
    static int seedFor(int... wanted) {
        for (int seed = 0; seed < 10_000_000; seed++) {
            if (goes(seed, wanted)) {
                return seed;
            }
        }
        throw new IllegalStateException("no seed found");
    }

    private static boolean goes(int seed, int[] wanted) {
        int now = seed;
        for (int k = 0; k < wanted.length; k += 2) {
            now = next(now);
            if (now / 256 % wanted[k] != wanted[k + 1]) {
                return false;
            }
        }
        return true;
    }
}
