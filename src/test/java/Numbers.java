/** Numbers that look thrown, by the upper bits of a linear congruence: the same in every run of the tests. */
final class Numbers {
    private long seed;

    Numbers(long seed) {
        this.seed = seed;
    }

    int below(int bound) {
        seed = seed * 6364136223846793005L + 1442695040888963407L;
        return (int) Math.floorMod(seed >>> 33, (long) bound);
    }
}
