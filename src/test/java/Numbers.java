/** A row of numbers that looks random and is the same every time. */
final class Numbers {
    private long seed;

    Numbers(long seed) {
        this.seed = seed * 2654435761L + 88172645463325252L;
    }

    /** 0 to bound - 1. */
    int below(int bound) {
        seed ^= seed << 13;
        seed ^= seed >>> 7;
        seed ^= seed << 17;
        return (int) Math.floorMod(seed, (long) bound);
    }

    int between(int least, int most) {
        return least + below(most - least + 1);
    }

    int oneOf(int... values) {
        return values[below(values.length)];
    }
}
