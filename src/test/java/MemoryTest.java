/** Promises 1 to 7: new objects, memory, contexts, roots and hosts. */
public final class MemoryTest {
    private static final Due due = new Due();

    public static void main(String[] args) {
        due.each(
            MemoryTest::newObjectHasItsSizes,
            MemoryTest::newObjectIsEmpty,
            MemoryTest::tableChangesOneWord,
            MemoryTest::tableIsNotKnownToEntries,
            MemoryTest::wordReadsMemory,
            MemoryTest::contextIsChanged,
            MemoryTest::contextChoosesRootAndEntries,
            MemoryTest::rootIsChanged,
            MemoryTest::hostIsChanged,
            MemoryTest::hostsAreSwitched,
            MemoryTest::wrongCallsChangeNothing);
    }

    /** Promise 1. */
    private static void newObjectHasItsSizes() {
        int[] levels = {1, 2, 3, 4, 5, 8, 9, 0, -1, -2, -3, -4,
            Integer.MAX_VALUE, Integer.MIN_VALUE, Integer.MIN_VALUE + 1};
        int[] wantLevels = {1, 2, 3, 4, 1, 4, 1, 4, 3, 2, 1, 4, 3, 4, 1};
        for (int i = 0; i < levels.length; i++) {
            due.same("L of " + levels[i], new PageRows(levels[i], 1).count(0), wantLevels[i]);
        }
        int[] entries = {1, 2, 31, 32, 33, 64, 65, 0, -1, -31, -32,
            Integer.MAX_VALUE, Integer.MIN_VALUE, Integer.MIN_VALUE + 1};
        int[] wantEntries = {1, 2, 31, 32, 1, 32, 1, 32, 31, 1, 32, 31, 32, 1};
        for (int i = 0; i < entries.length; i++) {
            due.same("N of " + entries[i], new PageRows(1, entries[i]).count(1), wantEntries[i]);
        }
    }

    /** Promise 1. */
    private static void newObjectIsEmpty() {
        PageRows x = new PageRows(2, 3);
        due.same("to() at first", x.to(), PageRows.NONE);
        due.same("level() at first", x.level(), PageRows.NONE);
        for (int what = 2; what <= 8; what++) {
            due.same("count(" + what + ") at first", x.count(what), 0);
        }
        due.same("context at first", x.context(0), 0);
        for (int c = 0; c < 4; c++) {
            due.same("root at first of " + c, x.root(c, 9), c);
        }
        due.same("hosts at first", x.hosts(true) ? 1 : 0, 0);
        due.same("host of 0 at first", x.host(0, 1), PageRows.NONE);
        due.same("host of 255 at first", x.host(255, 1), PageRows.NONE);
        due.same("word 0 at first", x.word(0), 0);
        due.same("word 4095 at first", x.word(4095), 0);
    }

    /** Promise 2. */
    private static void tableChangesOneWord() {
        PageRows x = new PageRows(1, 1);
        due.same("table(0, MIN)", x.table(0, Long.MIN_VALUE), 0);
        due.same("table(0, 5)", x.table(0, 5), Long.MIN_VALUE);
        due.same("table(4095, -1)", x.table(4095, -1), 0);
        due.same("word(4095)", x.word(4095), -1);
        due.same("word(4094)", x.word(4094), 0);
        due.same("word(0)", x.word(0), 5);
        due.outOfBounds("table(-1)", () -> x.table(-1, 0));
        due.outOfBounds("table(4096)", () -> x.table(4096, 0));
        due.outOfBounds("table(MIN)", () -> x.table(Integer.MIN_VALUE, 0));
        due.outOfBounds("table(MAX)", () -> x.table(Integer.MAX_VALUE, 0));
    }

    /** Promise 2: entries that are kept do not know. */
    private static void tableIsNotKnownToEntries() {
        PageRows x = new PageRows(1, 2);
        x.table(3, Words.of(40, Words.PRESENT | Words.READ));
        due.same("walk", x.walk(3 * 256 + 1, 0), 0);
        due.same("table", x.table(3, 0), Words.of(40, Words.PRESENT | Words.READ | Words.SEEN));
        due.same("walk by the old entry", x.walk(3 * 256 + 2, 0), 0);
        due.same("to() by the old entry", x.to(), 40 * 256 + 2);
        due.same("word stays as it was laid", x.word(3), 0);
    }

    /** Promise 3. */
    private static void wordReadsMemory() {
        PageRows x = new PageRows(4, 1);
        x.table(16, Long.MAX_VALUE);
        due.same("word(16)", x.word(16), Long.MAX_VALUE);
        due.same("word(16) once more", x.word(16), Long.MAX_VALUE);
        due.same("word(15)", x.word(15), 0);
        due.same("word(17)", x.word(17), 0);
        due.outOfBounds("word(-1)", () -> x.word(-1));
        due.outOfBounds("word(4096)", () -> x.word(4096));
        due.outOfBounds("word(MIN)", () -> x.word(Integer.MIN_VALUE));
        due.outOfBounds("word(MAX)", () -> x.word(Integer.MAX_VALUE));
    }

    /** Promise 4. */
    private static void contextIsChanged() {
        PageRows x = new PageRows(1, 1);
        due.same("context(3)", x.context(3), 0);
        due.same("context(1)", x.context(1), 3);
        due.outOfBounds("context(4)", () -> x.context(4));
        due.outOfBounds("context(-1)", () -> x.context(-1));
        due.outOfBounds("context(MIN)", () -> x.context(Integer.MIN_VALUE));
        due.same("count(3)", x.count(3), 1);
        due.same("context(0)", x.context(0), 1);
    }

    /** Promise 4. */
    private static void contextChoosesRootAndEntries() {
        PageRows x = new PageRows(1, 8);
        for (int c = 0; c < 4; c++) {
            x.table(16 * c, Words.of(100 + c, Words.PRESENT | Words.READ));
        }
        for (int c = 0; c < 4; c++) {
            x.context(c);
            due.same("walk in " + c, x.walk(0, 0), 0);
            due.same("to() in " + c, x.to(), (100 + c) * 256);
            due.same("plain in " + c, x.plain(1, 0), (100 + c) * 256 + 1);
        }
        due.same("no entry did for another context", x.count(5), 0);
        x.context(1);
        x.walk(7, 0);
        due.same("the entry of context 1", x.to(), 101 * 256 + 7);
        due.same("translations by entries", x.count(5), 1);
    }

    /** Promise 5. */
    private static void rootIsChanged() {
        PageRows x = new PageRows(1, 1);
        x.table(255 * 16, Words.of(7, Words.PRESENT | Words.READ));
        due.same("root(0, 255)", x.root(0, 255), 0);
        due.same("plain from the new root", x.plain(0, 0), 7 * 256);
        due.same("root(3, 0)", x.root(3, 0), 3);
        due.same("root(3, 1)", x.root(3, 1), 0);
        due.same("root(0, 0)", x.root(0, 0), 255);
        due.outOfBounds("root(-1, 0)", () -> x.root(-1, 0));
        due.outOfBounds("root(4, 0)", () -> x.root(4, 0));
        due.illegal("root(0, -1)", () -> x.root(0, -1));
        due.illegal("root(0, 256)", () -> x.root(0, 256));
        due.illegal("root(3, MIN)", () -> x.root(3, Integer.MIN_VALUE));
        due.outOfBounds("root(4, 256): the first one told", () -> x.root(4, 256));
        due.outOfBounds("root(-1, -1): the first one told", () -> x.root(-1, -1));
        due.same("context is as it was", x.count(3), 0);
    }

    /** Promise 6. */
    private static void hostIsChanged() {
        PageRows x = new PageRows(1, 1);
        due.same("host(0, 65535)", x.host(0, 65535), PageRows.NONE);
        due.same("host(0, 0)", x.host(0, 0), 65535);
        due.same("host(0, NONE)", x.host(0, PageRows.NONE), 0);
        due.same("host(0, 5)", x.host(0, 5), PageRows.NONE);
        due.same("host(255, 1)", x.host(255, 1), PageRows.NONE);
        due.same("host(255, 2)", x.host(255, 2), 1);
        due.outOfBounds("host(-1, 0)", () -> x.host(-1, 0));
        due.outOfBounds("host(256, 0)", () -> x.host(256, 0));
        due.illegal("host(0, -2)", () -> x.host(0, -2));
        due.illegal("host(0, 65536)", () -> x.host(0, 65536));
        due.illegal("host(0, MIN)", () -> x.host(0, Integer.MIN_VALUE));
        due.outOfBounds("host(256, 65536): the first one told", () -> x.host(256, 65536));
        due.outOfBounds("host(-1, -2): the first one told", () -> x.host(-1, -2));
    }

    /** Promise 7. */
    private static void hostsAreSwitched() {
        PageRows x = new PageRows(1, 1);
        x.table(0, Words.of(9, Words.PRESENT | Words.READ));
        x.table(16, Words.of(10, Words.PRESENT | Words.READ));
        x.host(0, 1);
        x.host(10, 50000);
        due.same("hosts(false) at first", x.hosts(false) ? 1 : 0, 0);
        due.same("plain without hosts", x.plain(3, 0), 9 * 256 + 3);
        due.same("hosts(true)", x.hosts(true) ? 1 : 0, 0);
        due.same("plain with hosts", x.plain(3, 0), 50000 * 256 + 3);
        due.same("hosts(true) again", x.hosts(true) ? 1 : 0, 1);
        due.same("hosts(false)", x.hosts(false) ? 1 : 0, 1);
        due.same("plain without hosts again", x.plain(3, 0), 9 * 256 + 3);
        due.same("the host is still there", x.host(0, 1), 1);
    }

    private static void wrongCallsChangeNothing() {
        PageRows x = new PageRows(1, 2);
        x.table(0, Words.of(9, Words.PRESENT | Words.READ));
        x.walk(4, 0);
        due.illegal("walk of no kind", () -> x.walk(0, 6));
        due.illegal("flush of nothing known", () -> x.flush(3, 0));
        due.illegal("root of no frame", () -> x.root(1, 256));
        due.illegal("host of no number", () -> x.host(1, 65536));
        due.outOfBounds("context of none", () -> x.context(4));
        due.outOfBounds("table of no word", () -> x.table(4096, 1));
        due.same("to()", x.to(), 9 * 256 + 4);
        due.same("level()", x.level(), PageRows.NONE);
        due.same("entries", x.count(2), 1);
        due.same("walks", x.count(6), 1);
        due.same("faults", x.count(7), 0);
        due.same("context", x.context(0), 0);
        due.same("root", x.root(1, 1), 1);
        due.same("host", x.host(1, 1), PageRows.NONE);
    }
}
