/**
 * Page tables of one to four levels, walked for rights, with kept entries that may be stale and
 * frames that are mapped once more. README.md says how to use it.
 */
public final class PageRows {
    /** Nothing there. */
    public static final int NONE = -1;

    private static final int MOST_LEVELS = 4;
    private static final int MOST_ENTRIES = 32;
    private static final int CONTEXTS = 4;
    private static final int FRAMES = 256;
    private static final int FRAME_WORDS = 16;
    private static final int WORDS = FRAMES * FRAME_WORDS;
    private static final int HIGHEST_HOST = 65535;

    private static final int PAGE_BITS = 8;
    private static final int PAGE_MASK = (1 << PAGE_BITS) - 1;
    private static final int INDEX_BITS = 4;
    private static final int INDEX_MASK = FRAME_WORDS - 1;

    private static final long PRESENT = 1L;
    private static final long LARGE = 1L << 5;
    private static final long SEEN = 1L << 6;
    private static final long CHANGED = 1L << 7;
    private static final int FRAME_SHIFT = 8;
    private static final int FRAME_MASK = (1 << 20) - 1;

    /** Rights are a word's bits 1 to 4 as a number: read, write, run, user. */
    private static final int RIGHTS_SHIFT = 1;
    private static final int RIGHTS_MASK = 15;
    private static final int USER_RIGHT = 8;

    private static final int KINDS = 6;
    private static final int PLAIN_KINDS = 3;
    private static final int WRITE = 1;

    private static final int NO_FAULT = 0;
    private static final int OUTSIDE = 1;
    private static final int NOT_PRESENT = 2;
    private static final int NO_RIGHT = 3;
    private static final int NOT_DIVIDED = 4;
    private static final int NO_TABLE = 5;
    private static final int NO_HOST = 6;

    private static final int FLUSH_ALL = 0;
    private static final int FLUSH_CONTEXT = 1;
    private static final int FLUSH_PLACE = 2;

    private static final int ENTRY_PARTS = 6;

    private final int levels;
    private final Memory memory;
    private final Path path;
    private final Entries entries;
    private final int[] roots;
    private int context;
    private int latestTo;
    private int latestLevel;
    private int wordsRead;
    private int byEntries;
    private int byWalks;
    private int faults;

    public PageRows(int levels, int entries) {
        // The masks are the rests by 4 and 32, also where the subtraction wraps round.
        this.levels = 1 + ((levels - 1) & (MOST_LEVELS - 1));
        this.memory = new Memory();
        this.path = new Path(this.memory, this.levels);
        this.entries = new Entries(1 + ((entries - 1) & (MOST_ENTRIES - 1)));
        this.roots = new int[CONTEXTS];
        for (int c = 0; c < CONTEXTS; c++) {
            this.roots[c] = c;
        }
        this.context = 0;
        this.latestTo = NONE;
        this.latestLevel = NONE;
    }

    public long table(int at, long v) throws IndexOutOfBoundsException {
        if (at < 0 || at >= WORDS) {
            throw new IndexOutOfBoundsException("no such word");
        }
        long before = memory.words[at];
        memory.words[at] = v;
        return before;
    }

    public long word(int at) throws IndexOutOfBoundsException {
        if (at < 0 || at >= WORDS) {
            throw new IndexOutOfBoundsException("no such word");
        }
        return memory.words[at];
    }

    public int context(int c) throws IndexOutOfBoundsException {
        if (c < 0 || c >= CONTEXTS) {
            throw new IndexOutOfBoundsException("no such context");
        }
        int before = context;
        context = c;
        return before;
    }

    public int root(int context, int frame)
            throws IndexOutOfBoundsException, IllegalArgumentException {
        if (context < 0 || context >= CONTEXTS) {
            throw new IndexOutOfBoundsException("no such context");
        }
        if (frame < 0 || frame >= FRAMES) {
            throw new IllegalArgumentException("no such frame");
        }
        int before = roots[context];
        roots[context] = frame;
        return before;
    }

    public int host(int frame, int host)
            throws IndexOutOfBoundsException, IllegalArgumentException {
        if (frame < 0 || frame >= FRAMES) {
            throw new IndexOutOfBoundsException("no such frame");
        }
        if (host < NONE || host > HIGHEST_HOST) {
            throw new IllegalArgumentException("no such host");
        }
        int before = memory.hosts[frame];
        memory.hosts[frame] = host;
        return before;
    }

    public boolean hosts(boolean on) {
        boolean before = memory.hostsOn;
        memory.hostsOn = on;
        return before;
    }

    public int walk(int place, int kind) throws IllegalArgumentException {
        if (!isKind(kind)) {
            throw new IllegalArgumentException("no such kind");
        }
        int k = entries.find(context, place);
        if (k == NONE || needsChangedMark(entries.rows[k], kind)) {
            return translateByTables(place, kind);
        }
        return translateByEntry(k, place, kind);
    }

    public int to() {
        return latestTo;
    }

    public int level() {
        return latestLevel;
    }

    public int plain(int place, int kind) throws IllegalArgumentException {
        if (!isKind(kind)) {
            throw new IllegalArgumentException("no such kind");
        }
        int fault = path.follow(roots[context], place, kind);
        return fault == NO_FAULT ? path.reached : -fault;
    }

    public int flush(int what, int place) throws IllegalArgumentException {
        if (what < FLUSH_ALL || what > FLUSH_PLACE) {
            throw new IllegalArgumentException("no such flush");
        }
        return entries.forget(what, context, place);
    }

    public int kept(int k, int what) throws IndexOutOfBoundsException {
        if (k < 0 || k >= entries.size) {
            throw new IndexOutOfBoundsException("no such entry");
        }
        if (what < 0 || what >= ENTRY_PARTS) {
            throw new IndexOutOfBoundsException("no such part of an entry");
        }
        return entries.rows[k].part(what);
    }

    public int stale(int kind) throws IllegalArgumentException {
        if (!isKind(kind)) {
            throw new IllegalArgumentException("no such kind");
        }
        int found = 0;
        for (int k = 0; k < entries.size; k++) {
            Entry entry = entries.rows[k];
            if (entry.context == context && isStale(entry, kind)) {
                found++;
            }
        }
        return found;
    }

    public int count(int what) {
        switch (what) {
            case 0: return levels;
            case 1: return entries.rows.length;
            case 2: return entries.size;
            case 3: return context;
            case 4: return wordsRead;
            case 5: return byEntries;
            case 6: return byWalks;
            case 7: return faults;
            case 8: return entries.crowdedOut;
            default: return NONE;
        }
    }

    private int translateByTables(int place, int kind) {
        byWalks++;
        int fault = path.follow(roots[context], place, kind);
        wordsRead += path.reads;
        if (fault == NO_FAULT) {
            path.mark(isWrite(kind));
            entries.keep(context, place, path);
        }
        return finish(fault, path.faultLevel, path.reached);
    }

    private int translateByEntry(int k, int place, int kind) {
        byEntries++;
        Entry entry = entries.rows[k];
        entries.use(k);
        if (!allows(entry.rights, kind)) {
            return finish(NO_RIGHT, levels, NONE);
        }
        int reached = memory.reach(entry.frame, entry.largeness, place);
        return finish(reached == NONE ? NO_HOST : NO_FAULT, levels, reached);
    }

    private int finish(int fault, int faultLevel, int reached) {
        latestTo = reached;
        latestLevel = fault == NO_FAULT ? NONE : faultLevel;
        if (fault != NO_FAULT) {
            faults++;
        }
        return fault;
    }

    private boolean isStale(Entry entry, int kind) {
        int place = entry.bits << bitsBelow(entry.largeness);
        int told = allows(entry.rights, kind)
                ? memory.reach(entry.frame, entry.largeness, place) : NONE;
        path.follow(roots[context], place, kind);
        // Every fault is NONE on both sides, so two different faults count as the same.
        return told != path.reached;
    }

    /** A write without the right is the entry's own fault, so it needs no walk for the mark. */
    private static boolean needsChangedMark(Entry entry, int kind) {
        return isWrite(kind) && !entry.changed && allows(entry.rights, kind);
    }

    private static boolean isKind(int kind) {
        return kind >= 0 && kind < KINDS;
    }

    private static boolean isWrite(int kind) {
        return kind % PLAIN_KINDS == WRITE;
    }

    private static boolean allows(int rights, int kind) {
        boolean hasRight = ((rights >> (kind % PLAIN_KINDS)) & 1) != 0;
        boolean hasUser = kind < PLAIN_KINDS || (rights & USER_RIGHT) != 0;
        return hasRight && hasUser;
    }

    /** How many of a place's lowest bits a leaf of this largeness leaves open. */
    private static int bitsBelow(int largeness) {
        return PAGE_BITS + INDEX_BITS * largeness;
    }

    private static int frameOf(long word) {
        return (int) (word >>> FRAME_SHIFT) & FRAME_MASK;
    }

    private static int rightsOf(long word) {
        return (int) (word >>> RIGHTS_SHIFT) & RIGHTS_MASK;
    }

    /** The words, and the hosts in which frames lie when hosts are on. */
    private static final class Memory {
        private final long[] words;
        private final int[] hosts;
        private boolean hostsOn;

        private Memory() {
            words = new long[WORDS];
            hosts = new int[FRAMES];
            for (int f = 0; f < FRAMES; f++) {
                hosts[f] = NONE;
            }
        }

        /** The frame in which a frame lies, or NONE when it has no host. */
        private int homeOf(int frame) {
            if (!hostsOn) {
                return frame;
            }
            return frame >= 0 && frame < FRAMES ? hosts[frame] : NONE;
        }

        /** Where a place comes to by a leaf's frame, or NONE when the page has no host. */
        private int reach(int leafFrame, int largeness, int place) {
            int page = (place & ((1 << bitsBelow(largeness)) - 1)) >> PAGE_BITS;
            int home = homeOf(leafFrame + page);
            return home == NONE ? NONE : (home << PAGE_BITS) + (place & PAGE_MASK);
        }
    }

    /** One way through the tables, used again by every walk. It changes no word before mark(). */
    private static final class Path {
        private final Memory memory;
        private final int levels;
        private final int[] wordsPassed;
        private int reads;
        private long leaf;
        private int largeness;
        private int faultLevel;
        private int reached;

        private Path(Memory memory, int levels) {
            this.memory = memory;
            this.levels = levels;
            this.wordsPassed = new int[MOST_LEVELS];
        }

        /** Goes from the root to where the place comes to: the fault, or NO_FAULT. */
        private int follow(int rootFrame, int place, int kind) {
            reads = 0;
            faultLevel = NONE;
            reached = NONE;
            if (isOutside(place)) {
                return stop(OUTSIDE, 0);
            }
            int frame = rootFrame;
            int behind = levels;
            do {
                behind--;
                int fault = read(frame, place >> bitsBelow(behind));
                if (fault != NO_FAULT) {
                    return stop(fault, levels - 1 - behind);
                }
                frame = frameOf(leaf);
            } while (behind > 0 && (leaf & LARGE) == 0);
            largeness = behind;
            int fault = leafFault(kind);
            if (fault != NO_FAULT) {
                return stop(fault, levels - 1 - behind);
            }
            reached = memory.reach(frame, largeness, place);
            return reached == NONE ? stop(NO_HOST, levels) : NO_FAULT;
        }

        private boolean isOutside(int place) {
            return place < 0 || place >= 1 << bitsBelow(levels);
        }

        private int stop(int fault, int atLevel) {
            faultLevel = atLevel;
            return fault;
        }

        /** Reads a table's word into leaf, since it is the leaf if no other one follows. */
        private int read(int frame, int index) {
            int home = memory.homeOf(frame);
            if (home == NONE) {
                return NO_HOST;
            }
            if (home >= FRAMES) {
                return NO_TABLE;
            }
            int at = home * FRAME_WORDS + (index & INDEX_MASK);
            leaf = memory.words[at];
            wordsPassed[reads] = at;
            reads++;
            return (leaf & PRESENT) == 0 ? NOT_PRESENT : NO_FAULT;
        }

        private int leafFault(int kind) {
            int openFrames = (1 << (INDEX_BITS * largeness)) - 1;
            if ((frameOf(leaf) & openFrames) != 0) {
                return NOT_DIVIDED;
            }
            return allows(rightsOf(leaf), kind) ? NO_FAULT : NO_RIGHT;
        }

        /** Marks the words of a way without fault; leaf then bears its marks, too. */
        private void mark(boolean written) {
            for (int i = 0; i < reads; i++) {
                memory.words[wordsPassed[i]] |= SEEN;
            }
            if (reads > 0) {
                int at = wordsPassed[reads - 1];
                if (written) {
                    memory.words[at] |= CHANGED;
                }
                leaf = memory.words[at];
            }
        }
    }

    /** What a walk without fault came to, as it was then. */
    private static final class Entry {
        private int context;
        private int largeness;
        private int bits;
        private int frame;
        private int rights;
        private boolean changed;

        private boolean standsFor(int ofContext, int place) {
            // All bits above are asked, so that those of no place outside are an entry's.
            return context == ofContext && bits == place >>> bitsBelow(largeness);
        }

        private int part(int what) {
            switch (what) {
                case 0: return context;
                case 1: return largeness;
                case 2: return bits;
                case 3: return frame;
                case 4: return rights;
                default: return changed ? 1 : 0;
            }
        }
    }

    /** The entries that are kept, the one used last first; rows behind size are spare ones. */
    private static final class Entries {
        private final Entry[] rows;
        private int size;
        private int crowdedOut;

        private Entries(int room) {
            rows = new Entry[room];
            for (int k = 0; k < room; k++) {
                rows[k] = new Entry();
            }
        }

        private int find(int context, int place) {
            for (int k = 0; k < size; k++) {
                if (rows[k].standsFor(context, place)) {
                    return k;
                }
            }
            return NONE;
        }

        private void use(int k) {
            Entry used = rows[k];
            for (int i = k; i > 0; i--) {
                rows[i] = rows[i - 1];
            }
            rows[0] = used;
        }

        private void keep(int context, int place, Path path) {
            int k = rowFor(context, place, path.largeness);
            Entry entry = rows[k];
            entry.context = context;
            entry.largeness = path.largeness;
            entry.bits = place >>> bitsBelow(path.largeness);
            entry.frame = frameOf(path.leaf);
            entry.rights = rightsOf(path.leaf);
            entry.changed = (path.leaf & CHANGED) != 0;
            use(k);
        }

        /** The row that a new entry takes: its forerunner's, a spare one, or the last one's. */
        private int rowFor(int context, int place, int largeness) {
            for (int k = 0; k < size; k++) {
                if (rows[k].largeness == largeness && rows[k].standsFor(context, place)) {
                    return k;
                }
            }
            if (size < rows.length) {
                size++;
            } else {
                crowdedOut++;
            }
            return size - 1;
        }

        private int forget(int what, int context, int place) {
            int stay = 0;
            for (int k = 0; k < size; k++) {
                Entry entry = rows[k];
                if (!isMeant(entry, what, context, place)) {
                    rows[k] = rows[stay];
                    rows[stay] = entry;
                    stay++;
                }
            }
            int forgotten = size - stay;
            size = stay;
            return forgotten;
        }

        private static boolean isMeant(Entry entry, int what, int context, int place) {
            switch (what) {
                case FLUSH_ALL: return true;
                case FLUSH_CONTEXT: return entry.context == context;
                default: return entry.standsFor(context, place);
            }
        }
    }
}
