/** Words of tables, as the document lays them out. */
final class Words {
    static final long PRESENT = 1;
    static final long READ = 2;
    static final long WRITE = 4;
    static final long RUN = 8;
    static final long USER = 16;
    static final long LARGE = 32;
    static final long SEEN = 64;
    static final long CHANGED = 128;
    static final long ALL_RIGHTS = PRESENT | READ | WRITE | RUN | USER;

    private Words() {
    }

    static long of(long frame, long bits) {
        return frame * 256 + bits;
    }

    /** A word that leads on to the next level's table. */
    static long next(long frame) {
        return of(frame, PRESENT);
    }

    /** Lays tables in frames 16, 17, .. so that place's bits lead to the leaf word. */
    static PageRows way(int levels, int place, long leaf) {
        PageRows x = new PageRows(levels, 4);
        x.root(0, 16);
        for (int level = 0; level < levels; level++) {
            int index = (place >> (8 + 4 * (levels - 1 - level))) & 15;
            long word = level == levels - 1 ? leaf : next(17 + level);
            x.table((16 + level) * 16 + index, word);
        }
        return x;
    }
}
