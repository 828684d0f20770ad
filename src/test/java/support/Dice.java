/** Numbers in an order of their own that is the same each time. */
final class Dice {
    private long state;

    Dice(long seed) {
        state = seed * 0x9E3779B97F4A7C15L + 0x1234567L;
    }

    long next() {
        state += 0x9E3779B97F4A7C15L;
        long z = state;
        z = (z ^ z >>> 30) * 0xBF58476D1CE4E5B9L;
        z = (z ^ z >>> 27) * 0x94D049BB133111EBL;
        return z ^ z >>> 31;
    }

    /** 0 .. n - 1. */
    int below(int n) {
        return (int) Math.floorMod(next(), (long) n);
    }

    int from(int least, int most) {
        return least + below(most - least + 1);
    }

    boolean once(int in) {
        return below(in) == 0;
    }

    /** Mostly least .. most; now and then just beyond, or far off. */
    int near(int least, int most) {
        if (once(25)) {
            return once(2) ? least - 1 : most + 1;
        }
        if (once(150)) {
            int[] odd = {Integer.MIN_VALUE, Integer.MAX_VALUE, -2, 256, 1000, -1000000, 1 << 24, 31, 32, 33, 64};
            return odd[below(odd.length)];
        }
        return from(least, most);
    }
}
