/** The DRAWS of a TAG as the document tells them, by long arithmetic. */
final class Draws {
    private long seed;

    Draws(long first) {
        seed = first;
    }

    int next() {
        seed = (1103515245L * seed + 12345L) & 0xffffffffL;
        return (int) (seed / 256 % 65536);
    }

    int skip(int many) {
        for (int i = 1; i < many; i++) {
            next();
        }
        return next();
    }

    /** A SEED whose next DRAW is that. */
    static int seedFor(int draw) {
        return before(draw << 8);
    }

    /** A SEED with which a TAG that DRAWS A SLOT with q is in that one, and has that NUMBER if it is slot 0. */
    static int seedFor(int slot, int q, int number) {
        for (int hidden = 0; hidden < 65536; hidden++) {
            int seed = before(before((hidden >>> 8) << 24 | number << 8 | hidden & 255));
            if (new Draws(seed).next() % (1 << q) == slot) {
                return seed;
            }
        }
        throw new IllegalArgumentException("no SEED for slot " + slot + " of " + q + ", number " + number);
    }

    // 1103515245 is odd: its inverse undoes it, as both wrap.
    private static int before(int seed) {
        int inverse = 1;
        for (int i = 0; i < 5; i++) {
            inverse *= 2 - 1103515245 * inverse;
        }
        return (seed - 12345) * inverse;
    }
}
