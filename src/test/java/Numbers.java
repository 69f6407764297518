/** The same numbers in every run of a test, so that what it finds can be found again. */
final class Numbers {
    private long seed;

    Numbers(int start) {
        seed = start;
    }

    int next(int from, int to) {
        seed = seed * 6364136223846793005L + 1442695040888963407L;
        return from + (int) ((seed >>> 33) % (to - from + 1));
    }

    boolean oneOf(int many) {
        return next(1, many) == 1;
    }

    /** The pairs of ends of so many strings between coins from least to greatest, some to the ground. */
    int[] ends(int strings, int least, int greatest) {
        int[] ends = new int[2 * strings];
        for (int i = 0; i < ends.length; i += 2) {
            ends[i] = next(least, greatest);
            ends[i + 1] = next(least, greatest);
            if (ends[i] == ends[i + 1] || oneOf(4)) {
                ends[i + 1] = -1;
            }
        }
        return ends;
    }
}
