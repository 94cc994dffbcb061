/** Numbers that look random and are the same in every run. */
final class Lcg {
    private long state;

    Lcg(long seed) {
        state = seed * 0x9E3779B97F4A7C15L + 12345;
    }

    int below(int bound) {
        state = state * 6364136223846793005L + 1442695040888963407L;
        return (int) ((state >>> 33) % bound);
    }
}
