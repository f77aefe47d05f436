/** Numbers that look thrown, but are the same in each run. */
final class Dice {
    private long seed;

    Dice(long seed) {
        this.seed = seed * 6364136223846793005L + 1442695040888963407L;
        upTo(10);
    }

    /** 0 .. n - 1. */
    int below(int n) {
        seed = seed * 6364136223846793005L + 1442695040888963407L;
        return (int) ((seed >>> 33) % n);
    }

    int upTo(int n) {
        return below(n + 1);
    }

    int from(int least, int most) {
        return least + below(most - least + 1);
    }

    boolean oneIn(int n) {
        return below(n) == 0;
    }

    /** Mostly within the bounds, at times just outside of them or far away. */
    int near(int least, int most) {
        if (oneIn(12)) {
            int[] odd = {least - 1, most + 1, least, most, -1, -2, Integer.MAX_VALUE,
                Integer.MIN_VALUE, least + 1, most - 1};
            return odd[below(odd.length)];
        }
        return from(least, Math.max(least, most));
    }
}
