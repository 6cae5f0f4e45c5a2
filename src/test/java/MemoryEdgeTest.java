/**
 * The boundary cases of the document up to promise 7, sentence by sentence: the smallest and the
 * largest input that is taken, the next ones on either side, and what refused calls leave.
 */
public final class MemoryEdgeTest {
    private static final int MIN = Integer.MIN_VALUE;
    private static final int MAX = Integer.MAX_VALUE;
    private static final Due due = new Due();
    private static final Refusals refused = new Refusals(due);

    public static void main(String[] args) {
        due.each(
            MemoryEdgeTest::callsUpTo512,
            MemoryEdgeTest::memoryIsZeroAtFirst,
            MemoryEdgeTest::memoryHasEveryWord,
            MemoryEdgeTest::wordsAreLongs,
            MemoryEdgeTest::framesHaveTheirWords,
            MemoryEdgeTest::framesAreNotWider,
            MemoryEdgeTest::levelsAreTheRest,
            MemoryEdgeTest::entriesAreTheRest,
            MemoryEdgeTest::contextAtFirst,
            MemoryEdgeTest::rootsAtFirst,
            MemoryEdgeTest::hostsAtFirst,
            MemoryEdgeTest::tableAnswersTheOneBefore,
            MemoryEdgeTest::tableOfNoWord,
            MemoryEdgeTest::tableIsNotKnownToEntries,
            MemoryEdgeTest::wordAtTheEnds,
            MemoryEdgeTest::wordOfNone,
            MemoryEdgeTest::contextAnswersTheOneBefore,
            MemoryEdgeTest::contextOfNone,
            MemoryEdgeTest::rootAnswersTheOneBefore,
            MemoryEdgeTest::rootOfNoContext,
            MemoryEdgeTest::rootOfNoFrame,
            MemoryEdgeTest::rootTellsTheContextFirst,
            MemoryEdgeTest::hostAnswersTheOneBefore,
            MemoryEdgeTest::hostIsNoneAnyMore,
            MemoryEdgeTest::hostOfNoFrame,
            MemoryEdgeTest::hostOfNoNumber,
            MemoryEdgeTest::hostTellsTheFrameFirst,
            MemoryEdgeTest::hostsAnswersWhatItWas);
    }

    private static void callsUpTo512() {
        due.sentence("An object is used for at most 512 calls");
        PageRows byEntry = Words.way(1, 0, Words.of(9, Words.ALL_RIGHTS));
        for (int call = 3; call < 512; call++) {
            byEntry.walk(0, 0);
        }
        due.same("512th call, count(5)", byEntry.count(5), 508);
        PageRows outside = new PageRows(4, 1);
        for (int call = 1; call < 512; call++) {
            outside.walk(call % 2 == 0 ? -1 : MAX, 0);
        }
        due.same("512th call, count(7)", outside.count(7), 511);
        due.same("512th call, count(8)", walkedInTurns().count(8), 508);
        due.same("512th call, count(4)", walkedInTurns().count(4), 4 * 509);
    }

    /** 511 calls, the walks among them each of four words and each crowding out the one before. */
    private static PageRows walkedInTurns() {
        PageRows x = new PageRows(4, 1);
        x.table(0, Words.next(0) | Words.READ);
        x.table(1, Words.next(0) | Words.READ);
        for (int call = 3; call < 512; call++) {
            x.walk(call % 2 == 0 ? 0 : 0x100, 0);
        }
        return x;
    }

    private static void memoryIsZeroAtFirst() {
        due.sentence("MEMORY has 4096 WORDS (longs, 0 at first)");
        for (int from = 0; from < 4096; from += 512) {
            PageRows x = new PageRows(1, 1);
            long sum = 0;
            for (int at = from; at < from + 512; at++) {
                sum |= x.word(at);
            }
            due.same("words from " + from + " on, joined", sum, 0);
        }
    }

    private static void memoryHasEveryWord() {
        due.sentence("MEMORY has 4096 WORDS, each of its own");
        for (int part = 0; part < 16; part++) {
            due.same("words " + part + ", " + (part + 16) + ", .. that differ",
                    wordsThatDiffer(part, 16), 0);
            due.same("words from " + part * 256 + " on that differ",
                    wordsThatDiffer(part * 256, 1), 0);
        }
    }

    /** Lays 256 words and reads them. */
    private static int wordsThatDiffer(int first, int step) {
        PageRows x = new PageRows(1, 1);
        for (int i = 0; i < 256; i++) {
            x.table(first + i * step, 1000L * i + 7);
        }
        int differ = 0;
        for (int i = 0; i < 256; i++) {
            differ += x.word(first + i * step) == 1000L * i + 7 ? 0 : 1;
        }
        return differ;
    }

    private static void wordsAreLongs() {
        due.sentence("WORDS are longs");
        long[] values = {Long.MIN_VALUE, Long.MIN_VALUE + 1, -1, 1, Long.MAX_VALUE, 1L << 32,
            0xFFFFFFFFL, -(1L << 32)};
        PageRows x = new PageRows(1, 1);
        for (long value : values) {
            x.table(4095, value);
            due.same("word of " + value, x.word(4095), value);
        }
    }

    private static void framesHaveTheirWords() {
        due.sentence("FRAME f (0 .. 255) has words 16 f to 16 f + 15");
        int[] frames = {0, 1, 2, 15, 16, 17, 127, 128, 254, 255};
        for (int frame : frames) {
            PageRows x = new PageRows(1, 4);
            x.root(0, frame);
            x.table(16 * frame, Words.of(500, Words.ALL_RIGHTS));
            x.table(16 * frame + 15, Words.of(501, Words.ALL_RIGHTS));
            due.same("first word of frame " + frame, x.plain(0, 0), 500 * 256);
            due.same("last word of frame " + frame, x.plain(0xF00, 0), 501 * 256);
            due.same("second word of frame " + frame, x.plain(0x100, 0), -2);
            due.same("last word but one of frame " + frame, x.plain(0xE00, 0), -2);
            x.walk(0, 0);
            x.walk(0xF00, 0);
            due.same("mark of the first word", x.word(16 * frame),
                    Words.of(500, Words.ALL_RIGHTS | Words.SEEN));
            due.same("mark of the last word", x.word(16 * frame + 15),
                    Words.of(501, Words.ALL_RIGHTS | Words.SEEN));
        }
    }

    private static void framesAreNotWider() {
        due.sentence("FRAME f has no word below 16 f and none above 16 f + 15");
        PageRows x = new PageRows(1, 4);
        x.root(0, 7);
        for (int at = 0; at < 16; at++) {
            x.table(6 * 16 + at, Words.of(500, Words.ALL_RIGHTS));
            x.table(8 * 16 + at, Words.of(501, Words.ALL_RIGHTS));
        }
        for (int index = 0; index < 16; index++) {
            due.same("index " + index, x.plain(index * 256, 0), -2);
        }
    }

    private static void levelsAreTheRest() {
        due.sentence("L is 1 + (levels - 1) modulo 4 (rests not below 0)");
        int[] levels = {MIN, MIN + 1, MIN + 2, MIN + 3, -5, -4, -3, -2, -1, 0, 1, 2, 3, 4, 5, 6,
            MAX - 3, MAX - 2, MAX - 1, MAX};
        int[] want = {4, 1, 2, 3, 3, 4, 1, 2, 3, 4, 1, 2, 3, 4, 1, 2, 4, 1, 2, 3};
        for (int i = 0; i < levels.length; i++) {
            PageRows x = new PageRows(levels[i], 1);
            due.same("L of " + levels[i], x.count(0), want[i]);
            int end = 1 << (8 + 4 * want[i]);
            due.same("last place of " + levels[i], x.plain(end - 1, 0), -2);
            due.same("place behind of " + levels[i], x.plain(end, 0), -1);
        }
    }

    private static void entriesAreTheRest() {
        due.sentence("N is 1 + (entries - 1) modulo 32 (rests not below 0)");
        int[] entries = {MIN, MIN + 1, MIN + 31, -33, -32, -31, -30, -1, 0, 1, 2, 31, 32, 33, 34,
            63, 64, 65, MAX - 31, MAX - 30, MAX};
        int[] want = {32, 1, 31, 31, 32, 1, 2, 31, 32, 1, 2, 31, 32, 1, 2, 31, 32, 1, 32, 1, 31};
        for (int i = 0; i < entries.length; i++) {
            PageRows x = new PageRows(1, entries[i]);
            due.same("N of " + entries[i], x.count(1), want[i]);
            for (int n = 0; n <= want[i]; n++) {
                x.context(n / 16);
                x.table(n, Words.of(9, Words.ALL_RIGHTS));
                x.walk(n % 16 * 256, 0);
            }
            due.same("kept, behind one more than N, of " + entries[i], x.count(2), want[i]);
            due.same("went for want of room, of " + entries[i], x.count(8), 1);
        }
    }

    private static void contextAtFirst() {
        due.sentence("Context 0");
        due.same("count(3)", new PageRows(1, 1).count(3), 0);
        due.same("context(3)", new PageRows(4, 32).context(3), 0);
    }

    private static void rootsAtFirst() {
        due.sentence("roots of contexts 0 .. 3 are frames 0 .. 3");
        PageRows x = new PageRows(1, 1);
        for (int c = 0; c < 4; c++) {
            x.table(16 * c, Words.of(70 + c, Words.ALL_RIGHTS));
            x.context(c);
            due.same("plain from the root of " + c, x.plain(0, 0), (70 + c) * 256);
            due.same("root of " + c, x.root(c, c), c);
        }
    }

    private static void hostsAtFirst() {
        due.sentence("hosts off, none");
        PageRows x = new PageRows(1, 1);
        due.same("hosts(false)", x.hosts(false) ? 1 : 0, 0);
        for (int frame = 0; frame < 256; frame++) {
            due.same("host of " + frame, x.host(frame, PageRows.NONE), PageRows.NONE);
        }
    }

    private static void tableAnswersTheOneBefore() {
        due.sentence("table: A word of memory is another one: the one before");
        int[] ends = {0, 1, 4094, 4095};
        for (int at : ends) {
            PageRows x = new PageRows(1, 1);
            due.same("table(" + at + ", MIN)", x.table(at, Long.MIN_VALUE), 0);
            due.same("table(" + at + ", MAX)", x.table(at, Long.MAX_VALUE), Long.MIN_VALUE);
            due.same("table(" + at + ", 0)", x.table(at, 0), Long.MAX_VALUE);
            due.same("table(" + at + ", 0) again", x.table(at, 0), 0);
        }
    }

    private static void tableOfNoWord() {
        due.sentence("table: IndexOutOfBoundsException, when there is none");
        int[] none = {MIN, -4096, -1, 4096, 4097, 65536, MAX};
        for (int at : none) {
            refused.outOfBounds("table(" + at + ", 1)", x -> x.table(at, 1));
        }
    }

    private static void tableIsNotKnownToEntries() {
        due.sentence("table: (Entries that are kept do not know.)");
        PageRows x = Words.way(1, 0xF00, Words.of(9, Words.ALL_RIGHTS));
        x.walk(0xF00, 1);
        String before = Shown.entries(x);
        x.table(16 * 16 + 15, 0);
        due.same("the entry", Shown.entries(x), before);
        due.same("read by it", x.walk(0xFFF, 0), 0);
        due.same("write by it", x.walk(0xF00, 1), 0);
        due.same("to by it", x.to(), 9 * 256);
        due.same("no mark is made by it", x.word(16 * 16 + 15), 0);
    }

    private static void wordAtTheEnds() {
        due.sentence("word: A word of memory");
        PageRows x = new PageRows(1, 1);
        x.table(0, 5);
        x.table(4095, 6);
        due.same("word(0)", x.word(0), 5);
        due.same("word(0) again", x.word(0), 5);
        due.same("word(1)", x.word(1), 0);
        due.same("word(4094)", x.word(4094), 0);
        due.same("word(4095)", x.word(4095), 6);
    }

    private static void wordOfNone() {
        due.sentence("word: IndexOutOfBoundsException, when there is none");
        int[] none = {MIN, -4096, -1, 4096, 4097, 65536, MAX};
        for (int at : none) {
            refused.outOfBounds("word(" + at + ")", x -> x.word(at));
        }
    }

    private static void contextAnswersTheOneBefore() {
        due.sentence("context: The context from now on: the one before");
        PageRows x = new PageRows(1, 1);
        int[] next = {0, 3, 3, 1, 2, 0, 0};
        int before = 0;
        for (int c : next) {
            due.same("context(" + c + ")", x.context(c), before);
            due.same("count(3)", x.count(3), c);
            before = c;
        }
    }

    private static void contextOfNone() {
        due.sentence("context: IndexOutOfBoundsException, when it is not 0 .. 3");
        int[] none = {MIN, -4, -1, 4, 5, MAX};
        for (int c : none) {
            refused.outOfBounds("context(" + c + ")", x -> x.context(c));
        }
    }

    private static void rootAnswersTheOneBefore() {
        due.sentence("root: A context's root: the one before");
        PageRows x = new PageRows(1, 1);
        for (int c = 0; c < 4; c++) {
            due.same("root(" + c + ", 255)", x.root(c, 255), c);
            due.same("root(" + c + ", 0)", x.root(c, 0), 255);
            due.same("root(" + c + ", 0) again", x.root(c, 0), 0);
            due.same("root(" + c + ", 254)", x.root(c, 254), 0);
        }
        due.same("the context is as it was", x.count(3), 0);
        x.table(254 * 16, Words.of(9, Words.ALL_RIGHTS));
        due.same("plain from the new root", x.plain(0, 0), 9 * 256);
    }

    private static void rootOfNoContext() {
        due.sentence("root: IndexOutOfBoundsException, when there is no such context");
        int[] none = {MIN, -4, -1, 4, 5, MAX};
        for (int c : none) {
            refused.outOfBounds("root(" + c + ", 0)", x -> x.root(c, 0));
            refused.outOfBounds("root(" + c + ", 255)", x -> x.root(c, 255));
        }
    }

    private static void rootOfNoFrame() {
        due.sentence("root: IllegalArgumentException, when it is not 0 .. 255");
        int[] none = {MIN, -256, -1, 256, 257, 65535, MAX};
        for (int frame : none) {
            refused.illegal("root(0, " + frame + ")", x -> x.root(0, frame));
            refused.illegal("root(3, " + frame + ")", x -> x.root(3, frame));
        }
    }

    private static void rootTellsTheContextFirst() {
        due.sentence("root: Of several exceptions the first one told is thrown");
        refused.outOfBounds("root(4, 256)", x -> x.root(4, 256));
        refused.outOfBounds("root(-1, -1)", x -> x.root(-1, -1));
        refused.outOfBounds("root(MIN, MAX)", x -> x.root(MIN, MAX));
    }

    private static void hostAnswersTheOneBefore() {
        due.sentence("host: A frame's host: the one before, or NONE");
        int[] ends = {0, 1, 254, 255};
        for (int frame : ends) {
            PageRows x = new PageRows(1, 1);
            due.same("host(" + frame + ", 0)", x.host(frame, 0), PageRows.NONE);
            due.same("host(" + frame + ", 65535)", x.host(frame, 65535), 0);
            due.same("host(" + frame + ", 65534)", x.host(frame, 65534), 65535);
            due.same("host(" + frame + ", 65534) again", x.host(frame, 65534), 65534);
            due.same("host of its neighbour", x.host(frame ^ 1, 0), PageRows.NONE);
        }
    }

    private static void hostIsNoneAnyMore() {
        due.sentence("host: (NONE: none any more)");
        PageRows x = new PageRows(1, 1);
        x.table(0, Words.of(255, Words.ALL_RIGHTS));
        x.hosts(true);
        x.host(0, 0);
        x.host(255, 65535);
        due.same("plain with hosts", x.plain(0, 0), 65535 * 256);
        due.same("host(255, NONE)", x.host(255, PageRows.NONE), 65535);
        due.same("plain without the page's host", x.plain(0, 0), -6);
        due.same("host(255, NONE) again", x.host(255, PageRows.NONE), PageRows.NONE);
        due.same("host(0, NONE)", x.host(0, PageRows.NONE), 0);
        due.same("host(255, 3)", x.host(255, 3), PageRows.NONE);
        due.same("plain without the root's host", x.plain(0, 0), -6);
    }

    private static void hostOfNoFrame() {
        due.sentence("host: IndexOutOfBoundsException, when there is no frame 0 .. 255");
        int[] none = {MIN, -256, -1, 256, 257, 65535, MAX};
        for (int frame : none) {
            refused.outOfBounds("host(" + frame + ", 0)", x -> x.host(frame, 0));
            refused.outOfBounds("host(" + frame + ", NONE)", x -> x.host(frame, PageRows.NONE));
        }
    }

    private static void hostOfNoNumber() {
        due.sentence("host: IllegalArgumentException, when host is not NONE to 65535");
        int[] none = {MIN, -65536, -2, 65536, 65537, MAX};
        for (int host : none) {
            refused.illegal("host(0, " + host + ")", x -> x.host(0, host));
            refused.illegal("host(255, " + host + ")", x -> x.host(255, host));
        }
    }

    private static void hostTellsTheFrameFirst() {
        due.sentence("host: Of several exceptions the first one told is thrown");
        refused.outOfBounds("host(256, 65536)", x -> x.host(256, 65536));
        refused.outOfBounds("host(-1, -2)", x -> x.host(-1, -2));
        refused.outOfBounds("host(MAX, MIN)", x -> x.host(MAX, MIN));
    }

    private static void hostsAnswersWhatItWas() {
        due.sentence("hosts: Hosts are on or off: what it was");
        PageRows x = new PageRows(1, 1);
        boolean[] next = {false, true, true, false, false, true};
        boolean before = false;
        for (boolean on : next) {
            due.same("hosts(" + on + ")", x.hosts(on) ? 1 : 0, before ? 1 : 0);
            due.same("fault", x.plain(0, 0), on ? -6 : -2);
            before = on;
        }
    }
}
