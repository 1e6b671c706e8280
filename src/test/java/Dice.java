/** Made-up numbers that are the same in every run. */
final class Dice {
    private long state;

    Dice(long seed) {
        state = seed * 0x9E3779B97F4A7C15L + 1;
    }

    /** One of 0 to sides - 1. */
    int roll(int sides) {
        state = state * 6364136223846793005L + 1442695040888963407L;
        return (int) ((state >>> 33) % sides);
    }

    boolean chance(int percent) {
        return roll(100) < percent;
    }

    String pick(String... choices) {
        return choices[roll(choices.length)];
    }
}
