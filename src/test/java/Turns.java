/** SEEDS for the turns that a test wants, reckoned apart from the class. */
final class Turns {
    private static final long TIMES = 1103515245L, PLUS = 12345L, BITS = 0xffffffffL;

    private Turns() {
    }

    /**
     * A SEED with which the turns are as written: "1/3 0/2" is the second of 3 WORKERS that are not
     * GONE, then the first of 2.
     */
    static int seed(String turns) {
        String[] each = turns.trim().split(" +");
        int[] places = new int[each.length];
        int[] left = new int[each.length];
        for (int turn = 0; turn < each.length; turn++) {
            String[] parts = each[turn].split("/");
            places[turn] = Integer.parseInt(parts[0]);
            left[turn] = Integer.parseInt(parts[1]);
        }
        for (long seed = 0; seed <= BITS; seed++) {
            if (gives(seed, places, left)) {
                return (int) seed;
            }
        }
        throw new IllegalStateException("no SEED gives " + turns);
    }

    /** A SEED with which so many WORKERS, none of them GONE, have their turns in this order. */
    static int seed(int workers, int... places) {
        StringBuilder turns = new StringBuilder();
        for (int place : places) {
            turns.append(place).append('/').append(workers).append(' ');
        }
        return seed(turns.toString());
    }

    private static boolean gives(long seed, int[] places, int[] left) {
        long now = seed;
        for (int turn = 0; turn < places.length; turn++) {
            now = (now * TIMES + PLUS) & BITS;
            if ((now >> 16) % left[turn] != places[turn]) {
                return false;
            }
        }
        return true;
    }

    /** Whose turn each of the first TICKS is, with so many WORKERS. */
    static int[] drawn(int seed, int workers, int ticks) {
        int[] drawn = new int[ticks];
        long now = seed & BITS;
        for (int tick = 0; tick < ticks; tick++) {
            now = (now * TIMES + PLUS) & BITS;
            drawn[tick] = (int) ((now >> 16) % workers);
        }
        return drawn;
    }

    /** The SEED that becomes this one in the next TICK. */
    static int before(long next) {
        long inverse = 4005161829L;
        return (int) ((next - PLUS) * inverse);
    }
}
