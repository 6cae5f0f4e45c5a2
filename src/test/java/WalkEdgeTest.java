/**
 * The boundary cases of walks, sentence by sentence: the terms on places, words, faults, hosts and
 * marks, and promises 8 to 11.
 */
public final class WalkEdgeTest {
    private static final int MIN = Integer.MIN_VALUE;
    private static final int MAX = Integer.MAX_VALUE;
    private static final long ALL = Words.ALL_RIGHTS;
    private static final long LARGE = Words.ALL_RIGHTS | Words.LARGE;
    private static final Due due = new Due();
    private static final Refusals refused = new Refusals(due);

    public static void main(String[] args) {
        due.each(
            WalkEdgeTest::placeHasItsBits,
            WalkEdgeTest::placeIsWithinThePage,
            WalkEdgeTest::placeHasItsIndices,
            WalkEdgeTest::wordHasItsFrame,
            WalkEdgeTest::wordHasItsBits,
            WalkEdgeTest::otherBitsDoNotMatter,
            WalkEdgeTest::marksDecideNothing,
            WalkEdgeTest::leafIsAtTheLastLevel,
            WalkEdgeTest::leafIsLarge,
            WalkEdgeTest::tableWithoutHost,
            WalkEdgeTest::tableAbove255WithHosts,
            WalkEdgeTest::tableAbove255,
            WalkEdgeTest::tableBehindHostsAbove255,
            WalkEdgeTest::wordNotPresent,
            WalkEdgeTest::largeFrameNotDivided,
            WalkEdgeTest::largeFrameAtTheLastLevel,
            WalkEdgeTest::rightOfTheKind,
            WalkEdgeTest::rightIsAskedOfLeavesAlone,
            WalkEdgeTest::faultsAreInThisOrder,
            WalkEdgeTest::faultsAreLevelByLevel,
            WalkEdgeTest::placeOutside,
            WalkEdgeTest::placeOutsideIsAheadOfAll,
            WalkEdgeTest::placeOutsideIsNoEntrys,
            WalkEdgeTest::largeLeafAndIndices,
            WalkEdgeTest::pageAbove255WithoutHosts,
            WalkEdgeTest::pageWithoutHost,
            WalkEdgeTest::pageAbove255WithHosts,
            WalkEdgeTest::pageInItsHost,
            WalkEdgeTest::tablesLieInHosts,
            WalkEdgeTest::everyWordReadIsSeen,
            WalkEdgeTest::leafOfAWriteIsChanged,
            WalkEdgeTest::nothingIsMarkedWithAFault,
            WalkEdgeTest::walkOfEachKind,
            WalkEdgeTest::walkOfNoKind,
            WalkEdgeTest::toBefore,
            WalkEdgeTest::toBehindAFault,
            WalkEdgeTest::toOfTheLatestWalk,
            WalkEdgeTest::levelBefore,
            WalkEdgeTest::levelOfEachFault,
            WalkEdgeTest::levelOfAPlaceOutside,
            WalkEdgeTest::levelBehindTheLeaf,
            WalkEdgeTest::levelByAKeptEntry,
            WalkEdgeTest::levelWithoutFault,
            WalkEdgeTest::plainAnswersEachFault,
            WalkEdgeTest::plainAtTheEnds,
            WalkEdgeTest::plainByTheTablesAlone,
            WalkEdgeTest::plainChangesNothing,
            WalkEdgeTest::plainOfNoKind);
    }

    /** Walks once, and tells fault, level and to as due; plain() must say the same beforehand. */
    private static void walks(PageRows x, int place, int kind, int fault, int levelOrTo) {
        String call = "(" + place + ", " + kind + ")";
        due.same("plain" + call, x.plain(place, kind), fault == 0 ? levelOrTo : -fault);
        due.same("walk" + call, x.walk(place, kind), fault);
        due.same("level() of " + call, x.level(), fault == 0 ? PageRows.NONE : levelOrTo);
        due.same("to() of " + call, x.to(), fault == 0 ? levelOrTo : PageRows.NONE);
    }

    private static void placeHasItsBits() {
        due.sentence("A PLACE has 8 + 4 L bits");
        int[] last = {0xFFF, 0xFFFF, 0xFFFFF, 0xFFFFFF};
        for (int levels = 1; levels <= 4; levels++) {
            PageRows x = Words.way(levels, last[levels - 1], Words.of(0x77, ALL));
            walks(x, last[levels - 1], 0, 0, 0x77FF);
            PageRows y = Words.way(levels, 0, Words.of(0x78, ALL));
            walks(y, 0, 0, 0, 0x7800);
        }
    }

    private static void placeIsWithinThePage() {
        due.sentence("its lowest 8 are within the page");
        PageRows x = Words.way(1, 0, Words.of(0x77, ALL));
        x.table(16 * 16 + 1, Words.of(0x33, ALL));
        walks(x, 0, 0, 0, 0x7700);
        walks(x, 1, 0, 0, 0x7701);
        walks(x, 0xFE, 0, 0, 0x77FE);
        walks(x, 0xFF, 0, 0, 0x77FF);
        walks(x, 0x100, 0, 0, 0x3300);
        walks(x, 0x1FF, 0, 0, 0x33FF);
        walks(x, 0x200, 0, 2, 0);
    }

    private static void placeHasItsIndices() {
        due.sentence("for each level 4 bits: the INDEX of that level (level 0's are the highest)");
        int[] places = {0x000000, 0xF00000, 0x0F0000, 0x00F000, 0x000F00, 0x123400, 0xFEDC00,
            0xFFFF00, 0x800000, 0x080000, 0x008000, 0x000800};
        for (int place : places) {
            PageRows x = Words.way(4, place, Words.of(0x77, ALL));
            walks(x, place, 0, 0, 0x7700);
            for (int level = 0; level < 4; level++) {
                int index = place >> (20 - 4 * level) & 15;
                due.same("word of level " + level + " is seen",
                        x.word((16 + level) * 16 + index) & Words.SEEN, Words.SEEN);
                int neighbour = place ^ 1 << (20 - 4 * level);
                due.same("index beside, at level " + level, x.plain(neighbour, 0), -2);
            }
        }
    }

    private static void wordHasItsFrame() {
        due.sentence("from bit 8 on (20 bits) a FRAME number");
        int[] frames = {0, 1, 0x7F, 0xFF, 0x100, 0x7FFFF, 0x80000, 0xFFFFE, 0xFFFFF};
        for (int frame : frames) {
            PageRows x = Words.way(1, 0, Words.of(frame, ALL));
            walks(x, 0xFF, 0, 0, frame * 256 + 255);
            due.same("frame kept", x.kept(0, 3), frame);
        }
        PageRows wraps = Words.way(1, 0, Words.of(0x100000, ALL));
        walks(wraps, 5, 0, 0, 5);
        PageRows next = Words.way(2, 0, Words.of(9, ALL));
        next.table(256, Words.next(0x100000 + 17));
        walks(next, 5, 0, 0, 0x905);
    }

    private static void wordHasItsBits() {
        due.sentence("bit 0 PRESENT, 1 READ, 2 WRITE, 3 RUN, 4 USER, 5 LARGE, 6 SEEN, 7 CHANGED");
        PageRows x = new PageRows(2, 1);
        x.table(0, 1 + 16 + 32 + (16 << 8));
        x.table(1, 1 + 2 + 32 + (16 << 8));
        x.table(2, 1 + 4 + 32 + (16 << 8));
        x.table(3, 1 + 8 + 32 + (16 << 8));
        x.table(4, 1 + 8 + 16 + 32 + (16 << 8));
        x.table(5, 0xFFFE);
        int[][] want = {{3, 3, 3, 3, 3, 3}, {0, 3, 3, 3, 3, 3}, {3, 0, 3, 3, 3, 3},
            {3, 3, 0, 3, 3, 3}, {3, 3, 0, 3, 3, 0}, {2, 2, 2, 2, 2, 2}};
        for (int index = 0; index < want.length; index++) {
            for (int kind = 0; kind < 6; kind++) {
                x.flush(0, 0);
                due.same("word " + index + ", kind " + kind, x.walk(index * 0x1000, kind),
                        want[index][kind]);
            }
        }
        due.same("seen is bit 6", x.word(1), 64 + 1 + 2 + 32 + (16 << 8));
        due.same("changed is bit 7", x.word(2), 128 + 64 + 1 + 4 + 32 + (16 << 8));
    }

    private static void otherBitsDoNotMatter() {
        due.sentence("other bits do not matter");
        for (int bit = 28; bit < 64; bit++) {
            long upper = Words.next(17) | 1L << bit;
            long leaf = Words.of(0x77, ALL) | 1L << bit;
            PageRows x = Words.way(2, 0, leaf);
            x.table(256, upper);
            walks(x, 5, 1, 0, 0x7705);
            due.same("bit " + bit + " of the upper word stays", x.word(256), upper | Words.SEEN);
            due.same("bit " + bit + " of the leaf stays", x.word(272),
                    leaf | Words.SEEN | Words.CHANGED);
            due.same("bit " + bit + " is not in the kept frame", x.kept(0, 3), 0x77);
            due.same("bit " + bit + " is not in the kept rights", x.kept(0, 4), 15);
        }
    }

    private static void marksDecideNothing() {
        due.sentence("6 SEEN, 7 CHANGED: no fault asks for them");
        long[] marks = {0, Words.SEEN, Words.CHANGED, Words.SEEN | Words.CHANGED};
        for (long upper : marks) {
            for (long leaf : marks) {
                PageRows x = Words.way(2, 0, Words.of(0x77, Words.PRESENT | Words.READ | leaf));
                x.table(256, Words.next(17) | upper);
                walks(x, 5, 1, 3, 1);
                walks(x, 5, 0, 0, 0x7705);
                due.same("upper word", x.word(256), Words.next(17) | upper | Words.SEEN);
                due.same("leaf", x.word(272),
                        Words.of(0x77, Words.PRESENT | Words.READ | leaf | Words.SEEN));
                due.same("changed", x.kept(0, 5), (leaf & Words.CHANGED) == 0 ? 0 : 1);
            }
            walks(Words.way(1, 0, Words.of(0x77, upper)), 0, 0, 2, 0);
        }
    }

    private static void leafIsAtTheLastLevel() {
        due.sentence("it is the LEAF at the last level");
        for (int levels = 1; levels <= 4; levels++) {
            PageRows x = Words.way(levels, 0, Words.of(18, ALL));
            walks(x, 7, 0, 0, 18 * 256 + 7);
            due.same("words read of " + levels, x.count(4), levels);
            due.same("largeness of " + levels, x.kept(0, 1), 0);
        }
    }

    private static void leafIsLarge() {
        due.sentence("or when it is large");
        for (int levels = 2; levels <= 4; levels++) {
            for (int at = 0; at < levels - 1; at++) {
                PageRows x = Words.way(levels, 0, Words.of(18, ALL));
                x.table((16 + at) * 16, Words.of(0x1000, LARGE));
                walks(x, 7, 0, 0, 0x100007);
                due.same("words read", x.count(4), at + 1);
                due.same("largeness", x.kept(0, 1), levels - 1 - at);
            }
        }
    }

    private static void tableWithoutHost() {
        due.sentence("6 the frame has no HOST (when hosts are on)");
        for (int without = 0; without < 4; without++) {
            PageRows x = Words.way(4, 0, Words.of(200, ALL));
            for (int level = 0; level < 4; level++) {
                x.host(16 + level, 16 + level);
            }
            x.host(200, 201);
            x.hosts(true);
            walks(x, 0, 0, 0, 201 * 256);
            x.flush(0, 0);
            x.host(16 + without, PageRows.NONE);
            int before = x.count(4);
            walks(x, 0, 0, 6, without);
            due.same("words read ahead of it", x.count(4) - before, without);
            x.hosts(false);
            walks(x, 0, 0, 0, 200 * 256);
        }
    }

    private static void tableAbove255WithHosts() {
        due.sentence("6 the frame has no HOST: frames 0 .. 255 may have a host");
        PageRows x = new PageRows(2, 2);
        x.hosts(true);
        x.host(0, 0);
        x.host(255, 1);
        x.table(0, Words.next(255));
        walks(x, 0, 0, 2, 1);
        int[] none = {254, 256, 257, 65535, 0xFFFFF};
        for (int frame : none) {
            x.table(0, Words.next(frame));
            walks(x, 0, 0, 6, 1);
        }
    }

    private static void tableAbove255() {
        due.sentence("5 the frame is above 255");
        PageRows x = new PageRows(2, 2);
        x.table(255 * 16, Words.of(9, ALL));
        x.table(0, Words.next(255));
        walks(x, 0, 0, 0, 9 * 256);
        x.flush(0, 0);
        int[] above = {256, 257, 511, 65535, 0xFFFFF};
        for (int frame : above) {
            int before = x.count(4);
            x.table(0, Words.next(frame));
            walks(x, 0, 0, 5, 1);
            due.same("words read ahead of it", x.count(4) - before, 1);
        }
        PageRows deep = Words.way(4, 0, Words.of(9, ALL));
        deep.table(18 * 16, Words.next(256));
        walks(deep, 0, 0, 5, 3);
    }

    private static void tableBehindHostsAbove255() {
        due.sentence("5 the frame (behind hosts) is above 255");
        PageRows x = new PageRows(2, 2);
        x.hosts(true);
        x.host(0, 255);
        x.host(3, 0);
        x.host(9, 9);
        x.table(4080, Words.next(3));
        x.table(0, Words.of(9, ALL));
        walks(x, 0, 0, 0, 9 * 256);
        x.flush(0, 0);
        int[] above = {256, 257, 65534, 65535};
        for (int host : above) {
            x.host(3, host);
            walks(x, 0, 0, 5, 1);
            x.host(0, host);
            walks(x, 0, 0, 5, 0);
            x.host(0, 255);
        }
        x.host(3, 255);
        x.hosts(false);
        walks(x, 0, 0, 2, 1);
    }

    private static void wordNotPresent() {
        due.sentence("2 the word is not present");
        for (int at = 0; at < 4; at++) {
            PageRows x = Words.way(4, 0, Words.of(18, ALL));
            long word = x.word((16 + at) * 16);
            x.table((16 + at) * 16, word & ~Words.PRESENT | -1L << 28);
            walks(x, 0, 0, 2, at);
            due.same("words read, that one too", x.count(4), at + 1);
            x.table((16 + at) * 16, 0);
            walks(x, 0, 0, 2, at);
        }
    }

    private static void largeFrameNotDivided() {
        due.sentence("4 its frame is not divided by 16 to the power of the levels behind it");
        int[][] divided = {{0, 0x10, 0x20, 0xF0, 0x100, 0xFFFF0}, {0, 0x100, 0x200, 0xFFF00},
            {0, 0x1000, 0x2000, 0xFF000}};
        int[][] not = {{1, 8, 0xF, 0x11, 0x18, 0xFFFFF, 0xFFFF8},
            {1, 0x10, 0x80, 0xFF, 0xF0, 0x101, 0x110, 0x180, 0xFFFFF, 0xFFFF0},
            {1, 0x10, 0x100, 0x800, 0xFFF, 0xF00, 0x1001, 0x1010, 0x1100, 0xFFFFF, 0xFFF00}};
        for (int behind = 1; behind <= 3; behind++) {
            for (int frame : divided[behind - 1]) {
                walks(large(behind, frame), 3, 0, 0, frame * 256 + 3);
            }
            for (int frame : not[behind - 1]) {
                walks(large(behind, frame), 3, 0, 4, 3 - behind);
            }
        }
    }

    /** Four levels; a large leaf with so many levels behind it. */
    private static PageRows large(int behind, int frame) {
        PageRows x = Words.way(4, 0, Words.of(18, ALL));
        x.table((19 - behind) * 16, Words.of(frame, LARGE));
        return x;
    }

    private static void largeFrameAtTheLastLevel() {
        due.sentence("4 it is large above the last level");
        int[] frames = {0, 1, 0xF, 0x10, 0x11, 0xFFFFF};
        for (int levels = 1; levels <= 4; levels++) {
            for (int frame : frames) {
                PageRows x = Words.way(levels, 0, Words.of(frame, LARGE));
                walks(x, 3, 0, 0, frame * 256 + 3);
                due.same("largeness", x.kept(0, 1), 0);
            }
        }
    }

    private static void rightOfTheKind() {
        due.sentence("3 it has not the kind's right, or the kind is a user's and it has not USER");
        int[] needed = {1, 2, 4, 9, 10, 12};
        for (int rights = 0; rights < 16; rights++) {
            for (int kind = 0; kind < 6; kind++) {
                PageRows x = Words.way(1, 0, Words.of(9, Words.PRESENT + 2 * rights));
                boolean allowed = (rights & needed[kind]) == needed[kind];
                walks(x, 3, kind, allowed ? 0 : 3, allowed ? 9 * 256 + 3 : 0);
            }
        }
    }

    private static void rightIsAskedOfLeavesAlone() {
        due.sentence("(asked of leaves alone)");
        for (int kind = 0; kind < 6; kind++) {
            PageRows none = Words.way(4, 0, Words.of(9, ALL));
            walks(none, 3, kind, 0, 9 * 256 + 3);
            PageRows all = Words.way(4, 0, Words.of(9, Words.PRESENT));
            for (int level = 0; level < 3; level++) {
                all.table((16 + level) * 16, Words.of(17 + level, ALL));
            }
            walks(all, 3, kind, 3, 3);
        }
    }

    private static void faultsAreInThisOrder() {
        due.sentence("Faults, at each level in this order: 6, 5, 2, 4, 3");
        PageRows x = new PageRows(2, 2);
        x.table(0, Words.of(0x21, Words.LARGE));
        x.hosts(true);
        walks(x, 0, 3, 6, 0);
        x.host(0, 256);
        walks(x, 0, 3, 5, 0);
        x.host(0, 0);
        walks(x, 0, 3, 2, 0);
        x.table(0, Words.of(0x21, Words.LARGE | Words.PRESENT));
        walks(x, 0, 3, 4, 0);
        x.table(0, Words.of(0x20, Words.LARGE | Words.PRESENT));
        walks(x, 0, 3, 3, 0);
        x.table(0, Words.of(0x21, LARGE));
        walks(x, 0, 3, 4, 0);
        x.table(0, Words.of(0x20, LARGE));
        walks(x, 0, 3, 6, 2);
        x.host(0x20, 5);
        walks(x, 0, 3, 0, 5 * 256);
        // A word that is not there and has no right, without LARGE: 2 as well.
        PageRows small = Words.way(1, 0, Words.of(9, 0));
        walks(small, 0, 0, 2, 0);
    }

    private static void faultsAreLevelByLevel() {
        due.sentence("level by level");
        // Each level above has a later fault of the order than the level below it.
        PageRows x = new PageRows(2, 2);
        x.hosts(true);
        x.host(0, 0);
        x.table(0, Words.of(0x21, LARGE));
        walks(x, 0, 0, 4, 0);
        x.table(0, Words.of(0x21, ALL));
        walks(x, 0, 0, 6, 1);
        x.host(0x21, 300);
        walks(x, 0, 0, 5, 1);
        x.table(0, Words.of(0x21, ALL & ~Words.PRESENT));
        walks(x, 0, 0, 2, 0);
    }

    private static void placeOutside() {
        due.sentence("Place outside: 1");
        for (int levels = 1; levels <= 4; levels++) {
            PageRows x = new PageRows(levels, 2);
            int end = 256;
            for (int i = 0; i < levels; i++) {
                end *= 16;
            }
            int[] outside = {MIN, MIN + 1, -end, -256, -1, end, end + 1, 2 * end, MAX};
            for (int place : outside) {
                walks(x, place, 0, 1, 0);
            }
            due.same("they are translations by walks", x.count(6), outside.length);
            due.same("none by entries", x.count(5), 0);
            due.same("they are faults", x.count(7), outside.length);
            due.same("no word was read", x.count(4), 0);
            walks(x, 0, 0, 2, 0);
            walks(x, end - 1, 0, 2, 0);
        }
    }

    private static void placeOutsideIsAheadOfAll() {
        due.sentence("Place outside: 1, ahead of all");
        for (int kind = 0; kind < 6; kind++) {
            PageRows x = new PageRows(1, 2);
            walks(x, 0x1000, kind, 1, 0);
            x.hosts(true);
            walks(x, 0x1000, kind, 1, 0);
            x.host(0, 256);
            walks(x, -1, kind, 1, 0);
            x.host(0, 0);
            x.table(0, Words.PRESENT);
            walks(x, 0x1000, kind, 1, 0);
        }
    }

    private static void placeOutsideIsNoEntrys() {
        due.sentence("Place outside: 1, ahead of kept entries");
        for (int levels = 1; levels <= 4; levels++) {
            PageRows x = Words.way(levels, 0, Words.of(9, ALL));
            x.walk(0, 1);
            PageRows high = Words.way(levels, (1 << (8 + 4 * levels)) - 1, Words.of(9, ALL));
            high.walk((1 << (8 + 4 * levels)) - 1, 1);
            for (int bit = 8 + 4 * levels; bit < 32; bit++) {
                due.same("walk of bit " + bit, x.walk(1 << bit, 0), 1);
                due.same("its level", x.level(), 0);
            }
            due.same("walk(-1, 0)", high.walk(-1, 0), 1);
            due.same("by entries", x.count(5) + high.count(5), 0);
            due.same("the entry is still there", x.walk(0, 1), 0);
            due.same("by entries now", x.count(5), 1);
        }
    }

    private static void largeLeafAndIndices() {
        due.sentence("the leaf's frame, more by the indices of the levels behind it");
        int[] highest = {0xFFFF0, 0xFFF00, 0xFF000};
        int[] open = {0xF, 0xFF, 0xFFF};
        for (int behind = 1; behind <= 3; behind++) {
            PageRows x = large(behind, highest[behind - 1]);
            walks(x, 0, 0, 0, highest[behind - 1] * 256);
            walks(x, open[behind - 1] * 256 + 255, 0, 0, 0xFFFFFFF);
            x.flush(0, 0);
            walks(x, open[behind - 1] * 256 + 255, 0, 0, 0xFFFFFFF);
            PageRows low = large(behind, 0);
            walks(low, 0x100, 0, 0, 0x100);
            walks(low, open[behind - 1] * 256, 0, 0, open[behind - 1] * 256);
        }
        PageRows mixed = large(3, 0x5000);
        walks(mixed, 0x0ABC12, 0, 0, 0x5ABC12);
    }

    private static void pageAbove255WithoutHosts() {
        due.sentence("mapped by hosts, if they are on: a page without hosts may lie above 255");
        int[] frames = {255, 256, 65535, 65536, 0xFFFFF};
        for (int frame : frames) {
            PageRows x = Words.way(2, 0, Words.of(frame, ALL));
            walks(x, 0xFF, 1, 0, frame * 256 + 255);
            walks(x, 0xFF, 1, 0, frame * 256 + 255);
        }
    }

    private static void pageWithoutHost() {
        due.sentence("(6 without one)");
        for (int levels = 1; levels <= 4; levels++) {
            PageRows x = hosted(levels, Words.of(200, ALL));
            walks(x, 9, 0, 6, levels);
            due.same("every word was read", x.count(4), levels);
            x.host(200, 0);
            walks(x, 9, 0, 0, 9);
            x.host(200, PageRows.NONE);
            due.same("by the entry", x.walk(9, 0), 6);
            due.same("its level", x.level(), levels);
        }
    }

    /** As Words.way from place 0 on, with hosts on, each table in itself. */
    private static PageRows hosted(int levels, long leaf) {
        PageRows x = Words.way(levels, 0, leaf);
        for (int level = 0; level < levels; level++) {
            x.host(16 + level, 16 + level);
        }
        x.hosts(true);
        return x;
    }

    private static void pageAbove255WithHosts() {
        due.sentence("(of what lies above 255: 6)");
        PageRows x = hosted(1, Words.of(255, ALL));
        x.host(255, 77);
        x.host(0, 78);
        walks(x, 0, 0, 0, 77 * 256);
        x.flush(0, 0);
        int[] above = {256, 257, 65535, 0xFFFFF};
        for (int frame : above) {
            x.table(256, Words.of(frame, ALL));
            walks(x, 0, 0, 6, 1);
        }
        PageRows wide = hosted(4, 0);
        wide.table(16 * 16, Words.of(0, LARGE));
        wide.host(255, 77);
        wide.host(0, 78);
        walks(wide, 0x00FF01, 0, 0, 77 * 256 + 1);
        walks(wide, 0x000001, 0, 0, 78 * 256 + 1);
        due.same("above 255 by the entry", wide.walk(0x010001, 0), 6);
        due.same("its level", wide.level(), 4);
        wide.flush(0, 0);
        walks(wide, 0x010001, 0, 6, 4);
        walks(wide, 0x0FFF01, 0, 6, 4);
    }

    private static void pageInItsHost() {
        due.sentence("a host (a frame 0 .. 65535): times 256, and what is within the page");
        int[] hosts = {0, 1, 255, 256, 65534, 65535};
        for (int host : hosts) {
            PageRows x = hosted(1, Words.of(200, ALL));
            x.host(200, host);
            walks(x, 0, 0, 0, host * 256);
            walks(x, 255, 0, 0, host * 256 + 255);
        }
        PageRows large = hosted(2, 0);
        large.table(16 * 16, Words.of(0xF0, LARGE));
        large.host(0xF0, 1000);
        large.host(0xFF, 2000);
        walks(large, 0x0012, 0, 0, 1000 * 256 + 0x12);
        walks(large, 0x0F12, 0, 0, 2000 * 256 + 0x12);
        due.same("a page between, without host", large.walk(0x0E12, 0), 6);
    }

    private static void tablesLieInHosts() {
        due.sentence("when hosts are on, tables lie in the hosts of their frames");
        PageRows x = new PageRows(2, 2);
        x.hosts(true);
        x.host(0, 255);
        x.host(255, 0);
        x.table(255 * 16 + 15, Words.next(255));
        x.table(15, Words.of(0, ALL));
        walks(x, 0xFF12, 1, 0, 255 * 256 + 0x12);
        due.same("upper word", x.word(4095), Words.next(255) | Words.SEEN);
        due.same("leaf", x.word(15), Words.of(0, ALL | Words.SEEN | Words.CHANGED));
    }

    private static void everyWordReadIsSeen() {
        due.sentence("each word that was read on the way is SEEN from then on");
        for (int levels = 1; levels <= 4; levels++) {
            PageRows x = Words.way(levels, 0, Words.of(9, ALL));
            x.plain(0, 0);
            due.same("ahead of the walk", x.word(256) & Words.SEEN, 0);
            x.walk(0, 0);
            for (int level = 0; level < levels; level++) {
                due.same("word of level " + level, x.word((16 + level) * 16) & Words.SEEN,
                        Words.SEEN);
                due.same("word beside", x.word((16 + level) * 16 + 1), 0);
            }
            x.flush(0, 0);
            x.walk(0, 0);
            due.same("behind a second walk", x.word(256) & Words.SEEN, Words.SEEN);
        }
    }

    private static void leafOfAWriteIsChanged() {
        due.sentence("the leaf of a write CHANGED, too");
        for (int kind = 0; kind < 6; kind++) {
            long changed = kind == 1 || kind == 4 ? Words.CHANGED : 0;
            for (int behind = 0; behind <= 3; behind++) {
                PageRows x = Words.way(4, 0, Words.of(0, LARGE));
                x.table((19 - behind) * 16, Words.of(0, LARGE));
                x.walk(0, kind);
                due.same("leaf of kind " + kind, x.word((19 - behind) * 16),
                        Words.of(0, LARGE | Words.SEEN | changed));
                for (int at = 0; at < 3 - behind; at++) {
                    due.same("word above it", x.word((16 + at) * 16),
                            Words.next(17 + at) | Words.SEEN);
                }
            }
        }
        PageRows before = Words.way(1, 0, Words.of(9, ALL | Words.CHANGED));
        before.walk(0, 0);
        due.same("a read takes no mark away", before.word(256),
                Words.of(9, ALL | Words.SEEN | Words.CHANGED));
    }

    private static void nothingIsMarkedWithAFault() {
        due.sentence("When there is no fault each word .. is SEEN");
        PageRows[] objects = {Words.way(2, 0, Words.of(9, ALL)),
            Words.way(2, 0, Words.of(9, ALL & ~Words.PRESENT)),
            Words.way(2, 0, Words.of(9, Words.PRESENT)),
            Words.way(2, 0, 0), Words.way(2, 0, 0), hosted(2, Words.of(9, ALL))};
        objects[3].table(256, Words.of(17, LARGE));
        objects[4].table(256, Words.next(256));
        for (int fault = 1; fault <= 6; fault++) {
            PageRows x = objects[fault - 1];
            long upper = x.word(256);
            long leaf = x.word(272);
            due.same("walk", x.walk(fault == 1 ? -1 : 0, 1), fault);
            due.same("upper word with fault " + fault, x.word(256), upper);
            due.same("leaf with fault " + fault, x.word(272), leaf);
            due.same("kept with fault " + fault, x.count(2), 0);
        }
    }

    private static void walkOfEachKind() {
        due.sentence("walk: Translates a place for a kind: 0, or the fault");
        for (int kind = 0; kind <= 5; kind++) {
            walks(Words.way(1, 0, Words.of(9, ALL)), 0, kind, 0, 9 * 256);
            walks(Words.way(1, 0, Words.of(9, Words.PRESENT)), 0, kind, 3, 0);
        }
    }

    private static void walkOfNoKind() {
        due.sentence("walk: IllegalArgumentException, when there is no such kind");
        int[] kinds = {MIN, -6, -2, -1, 6, 7, MAX};
        for (int kind : kinds) {
            refused.illegal("walk(0, " + kind + ")", x -> x.walk(0, kind));
            refused.illegal("walk(MAX, " + kind + ")", x -> x.walk(MAX, kind));
            refused.illegal("walk(-1, " + kind + ")", x -> x.walk(-1, kind));
        }
    }

    private static void toBefore() {
        due.sentence("to: NONE before");
        PageRows x = Words.way(1, 0, Words.of(0, ALL));
        due.same("to()", x.to(), PageRows.NONE);
        due.same("plain(0, 0)", x.plain(0, 0), 0);
        due.same("to() behind plain()", x.to(), PageRows.NONE);
        due.illegal("walk(0, 6)", () -> x.walk(0, 6));
        due.same("to() behind a refused walk", x.to(), PageRows.NONE);
    }

    private static void toBehindAFault() {
        due.sentence("to: NONE behind one with a fault");
        PageRows x = Words.way(1, 0, Words.of(0, Words.PRESENT | Words.READ));
        int[] places = {-1, 0x1000, 0x100};
        for (int place : places) {
            x.walk(0, 0);
            due.same("to() without fault", x.to(), 0);
            x.walk(place, 0);
            due.same("to() behind the fault of " + place, x.to(), PageRows.NONE);
        }
        x.walk(0, 0);
        due.same("fault by the entry", x.walk(0, 2), 3);
        due.same("to() behind it", x.to(), PageRows.NONE);
        x.walk(0, 0);
        x.hosts(true);
        due.same("fault by the entry", x.walk(0, 0), 6);
        due.same("to() behind it", x.to(), PageRows.NONE);
    }

    private static void toOfTheLatestWalk() {
        due.sentence("to: What the latest walk() without a fault came to");
        PageRows x = Words.way(1, 0, Words.of(0, ALL));
        x.table(257, Words.of(0xFFFFF, ALL));
        x.walk(0, 0);
        due.same("smallest", x.to(), 0);
        x.walk(0x1FF, 0);
        due.same("largest", x.to(), 0xFFFFFFF);
        x.walk(1, 0);
        due.same("by the entry", x.to(), 1);
        x.table(256, 0);
        x.plain(0, 0);
        x.plain(0x1FF, 0);
        x.stale(0);
        x.flush(0, 0);
        x.context(3);
        x.root(0, 9);
        x.hosts(true);
        due.same("it stays until the next walk", x.to(), 1);
        due.same("and once more", x.to(), 1);
    }

    private static void levelBefore() {
        due.sentence("level: NONE before");
        PageRows x = new PageRows(4, 1);
        due.same("level()", x.level(), PageRows.NONE);
        due.same("plain(0, 0)", x.plain(0, 0), -2);
        due.same("level() behind plain()", x.level(), PageRows.NONE);
        due.illegal("walk(0, -1)", () -> x.walk(0, -1));
        due.same("level() behind a refused walk", x.level(), PageRows.NONE);
    }

    private static void levelOfEachFault() {
        due.sentence("level: At which level the latest walk()'s fault was");
        for (int levels = 1; levels <= 4; levels++) {
            for (int at = 0; at < levels; at++) {
                PageRows x = Words.way(levels, 0, Words.of(9, ALL));
                x.table((16 + at) * 16, 0);
                due.same("walk", x.walk(0, 0), 2);
                due.same("level of 2", x.level(), at);
                boolean above = at < levels - 1;
                x.table((16 + at) * 16, above ? Words.of(1, LARGE) : Words.of(1, Words.PRESENT));
                due.same("walk", x.walk(0, 0), above ? 4 : 3);
                due.same("level of 4 or 3", x.level(), at);
                x.table((16 + at) * 16, Words.next(256));
                due.same("walk", x.walk(0, 0), above ? 5 : 3);
                due.same("level of 5 or 3", x.level(), above ? at + 1 : at);
                x.plain(-1, 0);
                due.same("level() behind plain()", x.level(), above ? at + 1 : at);
            }
        }
    }

    private static void levelOfAPlaceOutside() {
        due.sentence("level: (0 for 1)");
        for (int levels = 1; levels <= 4; levels++) {
            PageRows x = new PageRows(levels, 1);
            due.same("walk(-1, 0)", x.walk(-1, 0), 1);
            due.same("level()", x.level(), 0);
            due.same("walk(MAX, 5)", x.walk(MAX, 5), 1);
            due.same("level()", x.level(), 0);
        }
    }

    private static void levelBehindTheLeaf() {
        due.sentence("level: (L for what comes behind the leaf)");
        for (int levels = 1; levels <= 4; levels++) {
            for (int at = 0; at < levels; at++) {
                PageRows x = hosted(levels, Words.of(0x1000, LARGE));
                x.table((16 + at) * 16, Words.of(0x1000, LARGE));
                due.same("walk", x.walk(0, 0), 6);
                due.same("level() of a leaf at " + at, x.level(), levels);
            }
        }
    }

    private static void levelByAKeptEntry() {
        due.sentence("level: (L .. by a kept entry)");
        for (int levels = 1; levels <= 4; levels++) {
            for (int at = 0; at < levels; at++) {
                PageRows x = Words.way(levels, 0, 0);
                x.table((16 + at) * 16, Words.of(0x1000, Words.PRESENT | Words.READ | Words.LARGE));
                due.same("walk", x.walk(0, 0), 0);
                due.same("no right by it", x.walk(0, 1), 3);
                due.same("level()", x.level(), levels);
                x.hosts(true);
                x.walk(-1, 0);
                due.same("no host by it", x.walk(0, 0), 6);
                due.same("level()", x.level(), levels);
            }
        }
    }

    private static void levelWithoutFault() {
        due.sentence("level: NONE when it had none");
        PageRows x = Words.way(2, 0, Words.of(9, ALL));
        x.walk(-1, 0);
        due.same("walk by the tables", x.walk(0, 0), 0);
        due.same("level()", x.level(), PageRows.NONE);
        x.walk(-1, 0);
        due.same("walk by the entry", x.walk(0, 0), 0);
        due.same("level()", x.level(), PageRows.NONE);
    }

    private static void plainAnswersEachFault() {
        due.sentence("plain: below 0 the fault (-1 to -6)");
        PageRows x = Words.way(2, 0, Words.of(9, Words.PRESENT | Words.READ));
        x.table(257, Words.of(1, LARGE));
        x.table(258, Words.next(256));
        due.same("1", x.plain(-1, 0), -1);
        due.same("2", x.plain(0x100, 0), -2);
        due.same("3", x.plain(0, 1), -3);
        due.same("4", x.plain(0x1000, 0), -4);
        due.same("5", x.plain(0x2000, 0), -5);
        x.hosts(true);
        due.same("6 of the root", x.plain(0, 0), -6);
        x.host(16, 16);
        x.host(17, 17);
        due.same("6 of the page", x.plain(0, 0), -6);
    }

    private static void plainAtTheEnds() {
        due.sentence("plain: where it comes to");
        PageRows x = Words.way(1, 0, Words.of(0, ALL));
        x.table(256 + 15, Words.of(0xFFFFF, ALL));
        due.same("smallest", x.plain(0, 0), 0);
        due.same("largest", x.plain(0xFFF, 5), 0xFFFFFFF);
    }

    private static void plainByTheTablesAlone() {
        due.sentence("plain: As walk(), by the tables alone");
        PageRows x = Words.way(1, 0, Words.of(9, ALL));
        x.walk(0, 1);
        x.table(256, Words.of(10, Words.PRESENT | Words.READ));
        due.same("another frame", x.plain(0, 0), 10 * 256);
        due.same("another right", x.plain(0, 1), -3);
        x.table(256, 0);
        due.same("not present", x.plain(0, 0), -2);
        x.table(256, Words.of(11, ALL));
        due.same("a write needs no mark", x.plain(0, 1), 11 * 256);
        x.context(1);
        due.same("from the context's root", x.plain(0, 0), -2);
    }

    private static void plainChangesNothing() {
        due.sentence("plain: nothing is kept, used or marked, no reads are counted");
        for (int kind = 0; kind < 6; kind++) {
            PageRows x = Words.way(1, 0, Words.of(9, ALL));
            x.table(257, Words.of(10, ALL));
            x.table(258, Words.of(11, ALL));
            x.walk(0, 0);
            x.walk(0x100, 0);
            x.table(256, Words.of(9, ALL));
            String before = Shown.of(x);
            due.same("kept and laid anew", x.plain(0, kind), 9 * 256);
            due.same("not kept", x.plain(0x200, kind), 11 * 256);
            due.same("word 258", x.word(258), Words.of(11, ALL));
            due.same("with fault", x.plain(0x300, kind), -2);
            due.same("outside", x.plain(MIN, kind), -1);
            due.same("the object", Shown.of(x), before);
        }
    }

    private static void plainOfNoKind() {
        due.sentence("plain: IllegalArgumentException, when there is no such kind");
        int[] kinds = {MIN, -6, -2, -1, 6, 7, MAX};
        for (int kind : kinds) {
            refused.illegal("plain(0, " + kind + ")", x -> x.plain(0, kind));
            refused.illegal("plain(MAX, " + kind + ")", x -> x.plain(MAX, kind));
            refused.illegal("plain(-1, " + kind + ")", x -> x.plain(-1, kind));
        }
    }
}
