/** The DRAWS of a TAG as the document tells them, by long arithmetic. */
final class Draws {
    private long seed;

    Draws(long first) {
        seed = first;
    }

    int next() {
        seed = (1103515245L * seed + 12345L) & 0xffffffffL;
        return (int) (seed / 256 % 65536);
    }

    int skip(int many) {
        for (int i = 1; i < many; i++) {
            next();
        }
        return next();
    }
}
