/** Promises 12 to 15: flushes, kept entries, stale ones, and the counts. */
public final class KeptTest {
    private static final Due due = new Due();
    private static final long READ = Words.PRESENT | Words.READ;
    private static final long BOTH = READ | Words.WRITE;

    public static void main(String[] args) {
        due.each(
            KeptTest::flushOfAll,
            KeptTest::flushOfContext,
            KeptTest::flushOfPlace,
            KeptTest::flushOfSeveralForOnePlace,
            KeptTest::flushKeepsTheOrder,
            KeptTest::flushOfAnotherWhat,
            KeptTest::keptTellsItsParts,
            KeptTest::keptIsInOrderOfUse,
            KeptTest::keptOutOfBounds,
            KeptTest::newEntryTakesItsForerunnersPlace,
            KeptTest::oneUsedLongestAgoGoes,
            KeptTest::roomForThirtyTwo,
            KeptTest::staleByFrame,
            KeptTest::staleByFault,
            KeptTest::staleByRight,
            KeptTest::staleOfBothFaults,
            KeptTest::staleByHosts,
            KeptTest::staleOfLargePages,
            KeptTest::staleOfTheContextAlone,
            KeptTest::staleOfAnotherKind,
            KeptTest::staleLeavesAllAsItWas,
            KeptTest::countsOfEverything,
            KeptTest::countOfAnotherWhat);
    }

    /** One level: context c's page i is frame 100 + 20 c + i, for i below 8. */
    private static PageRows pages(int entries) {
        PageRows x = new PageRows(1, entries);
        for (int c = 0; c < 4; c++) {
            for (int i = 0; i < 8; i++) {
                x.table(16 * c + i, Words.of(100 + 20 * c + i, BOTH));
            }
        }
        return x;
    }

    private static void read(PageRows x, int... pages) {
        for (int page : pages) {
            due.same("walk to page " + page, x.walk(page * 256, 0), 0);
        }
    }

    /** The kept entries' bits, the one used last first. */
    private static void order(PageRows x, int... bits) {
        due.same("entries", x.count(2), bits.length);
        for (int k = 0; k < bits.length; k++) {
            due.same("kept(" + k + ", 2)", x.kept(k, 2), bits[k]);
        }
    }

    private static void flushOfAll() {
        PageRows x = pages(8);
        due.same("flush of nothing", x.flush(0, 0), 0);
        read(x, 1, 2);
        x.context(3);
        read(x, 1);
        due.same("flush(0, ..)", x.flush(0, -1), 3);
        due.same("entries", x.count(2), 0);
        due.same("flush again", x.flush(0, 0), 0);
        due.same("no want of room", x.count(8), 0);
        read(x, 1);
        due.same("by walks", x.count(6), 4);
    }

    private static void flushOfContext() {
        PageRows x = pages(8);
        read(x, 1, 2);
        x.context(3);
        read(x, 1, 4, 5);
        x.context(2);
        due.same("flush of a context without entries", x.flush(1, 0), 0);
        x.context(3);
        due.same("flush(1, ..)", x.flush(1, Integer.MAX_VALUE), 3);
        order(x, 2, 1);
        due.same("context of the others", x.kept(0, 0), 0);
    }

    private static void flushOfPlace() {
        PageRows x = pages(8);
        read(x, 0, 1, 2);
        x.context(1);
        read(x, 1);
        due.same("flush(2, ..) in context 1", x.flush(2, 0x1FF), 1);
        order(x, 2, 1, 0);
        due.same("flush(2, ..) of one that is not kept", x.flush(2, 0x1FF), 0);
        x.context(0);
        due.same("place outside", x.flush(2, 0x1000), 0);
        due.same("place outside", x.flush(2, 0x1100), 0);
        due.same("place outside", x.flush(2, -1), 0);
        due.same("place outside", x.flush(2, Integer.MIN_VALUE), 0);
        due.same("place outside", x.flush(2, Integer.MIN_VALUE + 256), 0);
        due.same("flush(2, ..)", x.flush(2, 0x100), 1);
        order(x, 2, 0);
    }

    private static void flushOfSeveralForOnePlace() {
        PageRows x = overlapping();
        order(x, 3, 0, 4);
        due.same("flush of both", x.flush(2, 0x3FF), 2);
        order(x, 4);
        PageRows y = overlapping();
        due.same("flush of the large one alone", y.flush(2, 0x200), 1);
        order(y, 3, 4);
    }

    /** Entries used in this order: page 4's, a large one of pages 0 .. 15, page 3's. */
    private static PageRows overlapping() {
        PageRows x = new PageRows(2, 4);
        x.table(0, Words.next(20));
        x.table(20 * 16 + 4, Words.of(0x51, READ));
        due.same("walk", x.walk(0x400, 0), 0);
        x.table(0, Words.of(0x40, BOTH | Words.LARGE));
        due.same("walk", x.walk(0x200, 0), 0);
        x.table(0, Words.next(20));
        x.table(20 * 16 + 3, Words.of(0x50, BOTH));
        due.same("walk", x.walk(0x300, 1), 0);
        return x;
    }

    private static void flushKeepsTheOrder() {
        PageRows x = pages(6);
        read(x, 0, 1);
        x.context(2);
        read(x, 6);
        x.context(0);
        read(x, 2, 3, 4);
        x.flush(2, 0x300);
        order(x, 4, 2, 6, 1, 0);
        x.context(2);
        x.flush(1, 0);
        order(x, 4, 2, 1, 0);
        x.context(0);
        read(x, 1, 5, 6);
        order(x, 6, 5, 1, 4, 2, 0);
        due.same("frame of page 5", x.kept(1, 3), 105);
        due.same("no want of room", x.count(8), 0);
    }

    private static void flushOfAnotherWhat() {
        PageRows x = pages(4);
        read(x, 0);
        int[] whats = {-1, 3, Integer.MIN_VALUE, Integer.MAX_VALUE};
        for (int what : whats) {
            due.illegal("flush(" + what + ", 0)", () -> x.flush(what, 0));
        }
        order(x, 0);
    }

    private static void keptTellsItsParts() {
        PageRows x = new PageRows(3, 4);
        x.context(2);
        long bits = Words.PRESENT | Words.WRITE | Words.USER | Words.LARGE;
        x.table(2 * 16 + 7, Words.next(30));
        x.table(30 * 16 + 9, Words.of(0xABCD0, bits));
        due.same("walk", x.walk(0x79123, 4), 0);
        int[] want = {2, 1, 0x79, 0xABCD0, 10, 1};
        for (int what = 0; what < want.length; what++) {
            due.same("kept(0, " + what + ")", x.kept(0, what), want[what]);
        }
        x.table(2 * 16 + 8, Words.of(0x300, Words.PRESENT | Words.RUN | Words.LARGE));
        due.same("walk", x.walk(0x8FFFF, 2), 0);
        int[] wantNext = {2, 2, 8, 0x300, 4, 0};
        for (int what = 0; what < wantNext.length; what++) {
            due.same("kept(0, " + what + ")", x.kept(0, what), wantNext[what]);
            due.same("kept(1, " + what + ")", x.kept(1, what), want[what]);
        }
    }

    private static void keptIsInOrderOfUse() {
        PageRows x = pages(4);
        read(x, 0, 1, 2, 3);
        order(x, 3, 2, 1, 0);
        read(x, 1);
        order(x, 1, 3, 2, 0);
        due.same("fault by an entry", x.walk(0x200, 2), 3);
        order(x, 2, 1, 3, 0);
        x.hosts(true);
        due.same("no host by an entry", x.walk(0, 0), 6);
        order(x, 0, 2, 1, 3);
        x.kept(3, 0);
        order(x, 0, 2, 1, 3);
        x.hosts(false);
        read(x, 0);
        order(x, 0, 2, 1, 3);
    }

    private static void keptOutOfBounds() {
        PageRows x = pages(4);
        due.outOfBounds("kept(0, 0) of none", () -> x.kept(0, 0));
        read(x, 0, 1);
        due.outOfBounds("kept(2, 0)", () -> x.kept(2, 0));
        due.outOfBounds("kept(-1, 0)", () -> x.kept(-1, 0));
        due.outOfBounds("kept(4, 0)", () -> x.kept(4, 0));
        due.outOfBounds("kept(MIN, 0)", () -> x.kept(Integer.MIN_VALUE, 0));
        due.outOfBounds("kept(0, 6)", () -> x.kept(0, 6));
        due.outOfBounds("kept(0, -1)", () -> x.kept(0, -1));
        due.outOfBounds("kept(0, MAX)", () -> x.kept(0, Integer.MAX_VALUE));
        x.flush(2, 0);
        due.outOfBounds("kept(1, 0) behind a flush", () -> x.kept(1, 0));
        due.same("kept(0, 2)", x.kept(0, 2), 1);
    }

    private static void newEntryTakesItsForerunnersPlace() {
        PageRows x = pages(3);
        read(x, 0, 1, 2);
        x.table(0, Words.of(77, BOTH | Words.USER));
        due.same("write walks", x.walk(0, 1), 0);
        order(x, 0, 2, 1);
        due.same("new frame", x.kept(0, 3), 77);
        due.same("new rights", x.kept(0, 4), 11);
        due.same("changed", x.kept(0, 5), 1);
        due.same("no want of room", x.count(8), 0);
        // One of another largeness does not go, though its bits are the same number.
        PageRows y = new PageRows(2, 4);
        y.table(0, Words.next(20));
        y.table(20 * 16, Words.of(0x50, BOTH));
        y.walk(0, 0);
        y.table(0, Words.of(0x40, BOTH | Words.LARGE));
        due.same("write walks", y.walk(0, 1), 0);
        order(y, 0, 0);
        due.same("largeness of the new one", y.kept(0, 1), 1);
        due.same("largeness of the old one", y.kept(1, 1), 0);
        // Nor does one of another context.
        PageRows z = pages(4);
        read(z, 5);
        z.context(1);
        read(z, 5);
        order(z, 5, 5);
        due.same("context of the new one", z.kept(0, 0), 1);
        due.same("context of the old one", z.kept(1, 0), 0);
    }

    private static void oneUsedLongestAgoGoes() {
        PageRows x = pages(3);
        read(x, 0, 1, 2, 0, 3);
        order(x, 3, 0, 2);
        due.same("went for want of room", x.count(8), 1);
        x.context(1);
        read(x, 7, 6);
        order(x, 6, 7, 3);
        due.same("went for want of room", x.count(8), 3);
        PageRows one = pages(1);
        read(one, 0, 1, 1, 0);
        order(one, 0);
        due.same("went for want of room", one.count(8), 2);
        due.same("by entries", one.count(5), 1);
    }

    private static void roomForThirtyTwo() {
        PageRows x = new PageRows(1, 32);
        for (int c = 0; c < 3; c++) {
            x.context(c);
            for (int i = 0; i < 16; i++) {
                x.table(16 * c + i, Words.of(50 + i, READ));
                due.same("walk", x.walk(256 * i, 0), 0);
            }
        }
        due.same("entries", x.count(2), 32);
        due.same("went", x.count(8), 16);
        due.same("last one's context", x.kept(31, 0), 1);
        due.same("last one's bits", x.kept(31, 2), 0);
        x.context(1);
        due.same("use of the last one", x.walk(0, 0), 0);
        due.same("first one's context", x.kept(0, 0), 1);
        due.same("last one's bits", x.kept(31, 2), 1);
    }

    private static void staleByFrame() {
        PageRows x = pages(4);
        read(x, 0, 1, 2);
        due.same("stale(0)", x.stale(0), 0);
        x.table(1, Words.of(60, BOTH));
        due.same("stale(0)", x.stale(0), 1);
        due.same("stale(1)", x.stale(1), 1);
        due.same("stale(2), all faults", x.stale(2), 0);
        x.root(0, 1);
        due.same("stale(0) of another root", x.stale(0), 3);
        x.root(0, 0);
        x.table(1, Words.of(101, BOTH));
        due.same("stale(0) as it was", x.stale(0), 0);
    }

    private static void staleByFault() {
        PageRows x = pages(4);
        read(x, 0, 1);
        x.table(0, 0);
        due.same("stale(0)", x.stale(0), 1);
        due.same("stale(3), all faults", x.stale(3), 0);
        x.table(1, Words.of(101, READ));
        due.same("stale(0)", x.stale(0), 1);
        due.same("stale(1): no right any more", x.stale(1), 2);
    }

    private static void staleByRight() {
        PageRows x = pages(4);
        read(x, 0, 1);
        x.table(0, Words.of(100, BOTH | Words.RUN | Words.USER));
        due.same("stale(0)", x.stale(0), 0);
        due.same("stale(2): the entry has no right", x.stale(2), 1);
        due.same("stale(3): the entry has no user", x.stale(3), 1);
        due.same("stale(1)", x.stale(1), 0);
    }

    private static void staleOfBothFaults() {
        PageRows x = pages(4);
        read(x, 0);
        x.table(0, 0);
        due.same("entry 3, table 2", x.stale(2), 0);
        x.hosts(true);
        due.same("entry 6, table 6 of the root", x.stale(0), 0);
        x.host(0, 256);
        due.same("entry 6, table 5", x.stale(0), 0);
    }

    private static void staleByHosts() {
        PageRows x = pages(4);
        read(x, 0);
        x.hosts(true);
        x.host(0, 1);
        x.host(120, 500);
        due.same("entry 6, table somewhere", x.stale(0), 1);
        x.host(100, 501);
        due.same("entry and table elsewhere", x.stale(0), 1);
        x.host(100, 500);
        due.same("both in one host", x.stale(0), 0);
        x.host(120, PageRows.NONE);
        due.same("entry somewhere, table 6", x.stale(0), 1);
    }

    private static void staleOfLargePages() {
        PageRows x = new PageRows(2, 4);
        x.table(3, Words.of(0x40, BOTH | Words.LARGE));
        due.same("walk", x.walk(0x3700, 0), 0);
        x.table(3, Words.next(20));
        due.same("table 2", x.stale(0), 1);
        x.table(20 * 16, Words.of(0x40, READ));
        due.same("the first place comes to the same", x.stale(0), 0);
        x.table(20 * 16, Words.of(0x47, READ));
        x.table(20 * 16 + 7, Words.of(0x47, READ));
        due.same("the first place alone is asked", x.stale(0), 1);
    }

    private static void staleOfTheContextAlone() {
        PageRows x = pages(4);
        read(x, 0, 1);
        x.context(1);
        read(x, 2);
        x.table(0, 0);
        x.table(1, 0);
        due.same("stale(0) of context 1", x.stale(0), 0);
        x.context(0);
        due.same("stale(0) of context 0", x.stale(0), 2);
        x.context(3);
        due.same("stale(0) of a context without entries", x.stale(0), 0);
    }

    private static void staleOfAnotherKind() {
        PageRows x = pages(4);
        int[] kinds = {-1, 6, Integer.MIN_VALUE, Integer.MAX_VALUE};
        for (int kind : kinds) {
            due.illegal("stale(" + kind + ")", () -> x.stale(kind));
        }
        read(x, 0);
        due.illegal("stale(6) with an entry", () -> x.stale(6));
    }

    private static void staleLeavesAllAsItWas() {
        PageRows x = pages(4);
        read(x, 0, 1, 2);
        x.table(2, Words.of(1, BOTH));
        x.stale(0);
        x.stale(1);
        order(x, 2, 1, 0);
        due.same("word 2", x.word(2), Words.of(1, BOTH));
        due.same("word 0", x.word(0), Words.of(100, BOTH | Words.SEEN));
        due.same("reads", x.count(4), 3);
        due.same("by entries", x.count(5), 0);
        due.same("by walks", x.count(6), 3);
        due.same("faults", x.count(7), 0);
        due.same("to()", x.to(), 102 * 256);
        due.same("level()", x.level(), PageRows.NONE);
    }

    private static void countsOfEverything() {
        PageRows x = pages(2);
        x.context(1);
        read(x, 0, 1, 0, 2);
        due.same("fault by an entry", x.walk(0, 2), 3);
        due.same("fault by a walk", x.walk(0x900, 0), 2);
        due.same("fault outside", x.walk(-5, 0), 1);
        int[] want = {1, 2, 2, 1, 4, 2, 5, 3, 1};
        for (int what = 0; what < want.length; what++) {
            due.same("count(" + what + ")", x.count(what), want[what]);
        }
    }

    private static void countOfAnotherWhat() {
        PageRows x = pages(2);
        int[] whats = {-1, 9, Integer.MIN_VALUE, Integer.MAX_VALUE};
        for (int what : whats) {
            due.same("count(" + what + ")", x.count(what), PageRows.NONE);
        }
    }
}
