/** Words of tables, as the document lays them out. */
final class Words {
    static final long PRESENT = 1;
    static final long READ = 2;
    static final long WRITE = 4;
    static final long RUN = 8;
    static final long USER = 16;
    static final long LARGE = 32;
    static final long SEEN = 64;
    static final long CHANGED = 128;

    private Words() {
    }

    static long of(long frame, long bits) {
        return frame * 256 + bits;
    }

    /** A word that leads on to the next level's table. */
    static long next(long frame) {
        return of(frame, PRESENT);
    }
}
