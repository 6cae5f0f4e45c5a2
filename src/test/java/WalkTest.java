/** Promises 8 to 11: walks, what they come to, where they fault, and the plain walk. */
public final class WalkTest {
    private static final Due due = new Due();
    private static final long ALL_RIGHTS = Words.ALL_RIGHTS;

    public static void main(String[] args) {
        due.each(
            WalkTest::everyLevelCountIsWalked,
            WalkTest::placeOutsideIsFaultOne,
            WalkTest::wordNotPresentIsFaultTwo,
            WalkTest::rightsAreAskedOfLeavesAlone,
            WalkTest::largePagesAreReached,
            WalkTest::largePageNotDividedIsFaultFour,
            WalkTest::largeMeansNothingAtTheLastLevel,
            WalkTest::tableAboveFramesIsFaultFive,
            WalkTest::tableWithoutHostIsFaultSix,
            WalkTest::pageWithoutHostIsFaultSixBehindTheLeaf,
            WalkTest::faultsComeInTheirOrder,
            WalkTest::otherBitsDoNotMatter,
            WalkTest::marksAreMade,
            WalkTest::marksAreNotMadeWithFault,
            WalkTest::sameWordReadTwice,
            WalkTest::marksLieInHosts,
            WalkTest::entryAnswersForItsPlaces,
            WalkTest::entryAsksItsRight,
            WalkTest::writeByEntryNotChangedWalks,
            WalkTest::entryIsMappedAtEachUse,
            WalkTest::latestUsedEntryAnswers,
            WalkTest::wrongKindIsRefused,
            WalkTest::toAndLevelTellTheLatestWalk,
            WalkTest::plainLeavesAllAsItWas,
            WalkTest::plainKnowsNoEntries);
    }

    /** Walks once, and tells fault, level and to as due; plain() must say the same beforehand. */
    private static void walks(PageRows x, int place, int kind, int fault, int levelOrTo) {
        String call = "(" + place + ", " + kind + ")";
        due.same("plain" + call, x.plain(place, kind), fault == 0 ? levelOrTo : -fault);
        due.same("walk" + call, x.walk(place, kind), fault);
        due.same("level() of " + call, x.level(), fault == 0 ? PageRows.NONE : levelOrTo);
        due.same("to() of " + call, x.to(), fault == 0 ? levelOrTo : PageRows.NONE);
    }

    private static void everyLevelCountIsWalked() {
        int[] places = {0x7AB, 0x72AB, 0x731AB, 0xF731AB};
        for (int levels = 1; levels <= 4; levels++) {
            int place = places[levels - 1];
            PageRows x = Words.way(levels, place, Words.of(0x345, Words.PRESENT | Words.READ));
            walks(x, place, 0, 0, 0x345AB);
            due.same("words read on " + levels, x.count(4), levels);
            due.same("walks on " + levels, x.count(6), 1);
            walks(x, place ^ 0x100, 0, 2, levels - 1);
        }
        PageRows highest = Words.way(4, 0xFFFFFF, Words.of(0xFFFFF, Words.PRESENT | Words.RUN));
        walks(highest, 0xFFFFFF, 2, 0, 0xFFFFFFF);
    }

    private static void placeOutsideIsFaultOne() {
        for (int levels = 1; levels <= 4; levels++) {
            PageRows x = new PageRows(levels, 2);
            x.hosts(true);
            int end = 1 << (8 + 4 * levels);
            int[] outside = {end, end + 1, -1, -end, Integer.MAX_VALUE, Integer.MIN_VALUE};
            for (int place : outside) {
                walks(x, place, 0, 1, 0);
            }
            walks(x, end - 1, 0, 6, 0);
            due.same("walks outside count", x.count(6), outside.length + 1);
            due.same("faults outside count", x.count(7), outside.length + 1);
            due.same("nothing was read", x.count(4), 0);
        }
        // The low bits of these places are those of a kept entry.
        PageRows kept = Words.way(1, 0, Words.of(9, ALL_RIGHTS));
        walks(kept, 0, 0, 0, 9 * 256);
        walks(kept, 0x1000, 0, 1, 0);
        walks(kept, Integer.MIN_VALUE, 0, 1, 0);
        due.same("the entry did not answer outside", kept.count(5), 0);
    }

    private static void wordNotPresentIsFaultTwo() {
        PageRows x = Words.way(3, 0x12345, Words.of(9, ALL_RIGHTS & ~Words.PRESENT));
        walks(x, 0x12345, 0, 2, 2);
        walks(x, 0x11345, 0, 2, 1);
        walks(x, 0x22345, 0, 2, 0);
        due.same("words read with faults", x.count(4), 3 + 2 + 1);
        due.same("nothing is kept", x.count(2), 0);
    }

    private static void rightsAreAskedOfLeavesAlone() {
        long[] rights = {Words.READ, Words.WRITE, Words.RUN};
        for (int given = 0; given < 16; given++) {
            for (int kind = 0; kind < 6; kind++) {
                long word = Words.of(9, Words.PRESENT | (long) given << 1);
                boolean allowed = (word & rights[kind % 3]) != 0
                        && (kind < 3 || (word & Words.USER) != 0);
                // The upper words have no right at all.
                PageRows x = Words.way(2, 0x3456, word);
                walks(x, 0x3456, kind, allowed ? 0 : 3, allowed ? 0x956 : 1);
            }
        }
    }

    private static void largePagesAreReached() {
        PageRows x = new PageRows(4, 8);
        x.table(5, Words.of(0x7000, Words.PRESENT | Words.READ | Words.LARGE));
        walks(x, 0x5ABCDE, 0, 0, 0x7ABCDE);
        x.table(6, Words.next(30));
        x.table(30 * 16 + 1, Words.of(0x200, Words.PRESENT | Words.READ | Words.LARGE));
        walks(x, 0x61FEDC, 0, 0, 0x2FEDC);
        x.table(30 * 16 + 2, Words.next(31));
        x.table(31 * 16 + 15, Words.of(0x10, Words.PRESENT | Words.READ | Words.LARGE));
        walks(x, 0x62F9DC, 0, 0, 0x19DC);
        due.same("largeness 1", x.kept(0, 1), 1);
        due.same("largeness 2", x.kept(1, 1), 2);
        due.same("largeness 3", x.kept(2, 1), 3);
        due.same("words read", x.count(4), 1 + 2 + 3);
    }

    private static void largePageNotDividedIsFaultFour() {
        int[] wrong = {1, 8, 0x10, 0x80, 0x100, 0x800, 0x1008};
        for (int frame : wrong) {
            PageRows x = new PageRows(4, 2);
            x.table(0, Words.of(frame, Words.PRESENT | Words.LARGE | Words.READ));
            walks(x, 0, 0, 4, 0);
        }
        PageRows x = new PageRows(3, 2);
        x.table(0, Words.next(20));
        x.table(20 * 16, Words.of(0x1F8, Words.PRESENT | Words.LARGE | Words.READ));
        walks(x, 0, 0, 4, 1);
        x.table(20 * 16, Words.of(0x1F0, Words.PRESENT | Words.LARGE | Words.READ));
        walks(x, 0, 0, 0, 0x1F000);
    }

    private static void largeMeansNothingAtTheLastLevel() {
        PageRows x = Words.way(2, 0x3456, Words.of(0x9, Words.PRESENT | Words.READ | Words.LARGE));
        walks(x, 0x3456, 0, 0, 0x956);
        due.same("largeness", x.kept(0, 1), 0);
        PageRows one = Words.way(1, 0x456, Words.of(0x7, Words.PRESENT | Words.READ | Words.LARGE));
        walks(one, 0x456, 0, 0, 0x756);
    }

    private static void tableAboveFramesIsFaultFive() {
        PageRows x = new PageRows(2, 2);
        x.table(0, Words.next(256));
        walks(x, 0, 0, 5, 1);
        x.table(0, Words.next(0xFFFFF));
        walks(x, 0, 0, 5, 1);
        x.table(0, Words.next(255));
        walks(x, 0, 0, 2, 1);
        due.same("the word behind fault 5 is not read", x.count(4), 1 + 1 + 2);
        x.hosts(true);
        x.host(0, 256);
        walks(x, 0, 0, 5, 0);
        x.host(0, 65535);
        walks(x, 0, 0, 5, 0);
        x.host(0, 255);
        walks(x, 0, 0, 2, 0);
    }

    private static void tableWithoutHostIsFaultSix() {
        PageRows x = new PageRows(2, 2);
        x.hosts(true);
        walks(x, 0, 0, 6, 0);
        x.host(0, 0);
        x.table(0, Words.next(40));
        walks(x, 0, 0, 6, 1);
        x.table(0, Words.next(256));
        walks(x, 0, 0, 6, 1);
        due.same("words read ahead of fault 6", x.count(4), 2);
    }

    private static void pageWithoutHostIsFaultSixBehindTheLeaf() {
        PageRows x = new PageRows(1, 2);
        x.hosts(true);
        x.host(0, 3);
        x.table(48, Words.of(40, Words.PRESENT | Words.READ));
        walks(x, 0, 0, 6, 1);
        due.same("word is not marked", x.word(48), Words.of(40, Words.PRESENT | Words.READ));
        due.same("nothing is kept", x.count(2), 0);
        due.same("word was read", x.count(4), 1);
        x.host(40, 65535);
        walks(x, 255, 0, 0, 65535 * 256 + 255);
        x.table(49, Words.of(256, Words.PRESENT | Words.READ));
        walks(x, 256, 0, 6, 1);
        // Behind a large leaf each page has a host of its own.
        PageRows large = new PageRows(2, 2);
        large.hosts(true);
        large.host(0, 0);
        large.table(0, Words.of(0x20, Words.PRESENT | Words.READ | Words.LARGE));
        large.host(0x23, 1000);
        walks(large, 0x345, 0, 0, 1000 * 256 + 0x45);
        due.same("the entry's frame is not mapped", large.kept(0, 3), 0x20);
        walks(large, 0x245, 0, 6, 2);
        large.table(1, Words.of(0xFF0, Words.PRESENT | Words.READ | Words.LARGE));
        walks(large, 0x1345, 0, 6, 2);
    }

    private static void faultsComeInTheirOrder() {
        PageRows x = new PageRows(2, 2);
        long bad = Words.of(0x21, Words.LARGE);
        x.table(0, bad);
        walks(x, 0, 3, 2, 0);
        x.table(0, bad | Words.PRESENT);
        walks(x, 0, 3, 4, 0);
        x.table(0, Words.of(0x20, Words.PRESENT | Words.LARGE));
        walks(x, 0, 3, 3, 0);
        x.hosts(true);
        walks(x, 0, 3, 6, 0);
        x.host(0, 256);
        walks(x, 0, 3, 5, 0);
        x.host(0, 0);
        walks(x, 0, 3, 3, 0);
        x.table(0, Words.of(0x20, Words.PRESENT | Words.LARGE | Words.READ | Words.USER));
        walks(x, 0, 3, 6, 2);
    }

    private static void otherBitsDoNotMatter() {
        long odd = 0xABCDEF1L << 28;
        PageRows x = new PageRows(2, 2);
        x.table(0, Words.next(20) | odd | Long.MIN_VALUE);
        x.table(20 * 16, Words.of(0xFFFFF, Words.PRESENT | Words.READ) | odd);
        walks(x, 0x12, 0, 0, 0xFFFFF12);
        due.same("odd bits stay", x.word(0),
                Words.of(20, Words.PRESENT | Words.SEEN) | odd | Long.MIN_VALUE);
        due.same("odd bits are not kept", x.kept(0, 3), 0xFFFFF);
    }

    private static void marksAreMade() {
        long leaf = Words.of(9, ALL_RIGHTS);
        for (int kind = 0; kind < 6; kind++) {
            PageRows x = Words.way(2, 0, leaf);
            x.walk(0, kind);
            boolean write = kind == 1 || kind == 4;
            due.same("upper word is seen", x.word(256), Words.next(17) | Words.SEEN);
            due.same("leaf of kind " + kind, x.word(272),
                    leaf | Words.SEEN | (write ? Words.CHANGED : 0));
            due.same("entry changed by kind " + kind, x.kept(0, 5), write ? 1 : 0);
        }
        PageRows changed = Words.way(1, 0, leaf | Words.CHANGED);
        changed.walk(0, 0);
        due.same("entry of a leaf changed before", changed.kept(0, 5), 1);
        due.same("leaf changed before", changed.word(256), leaf | Words.CHANGED | Words.SEEN);
    }

    private static void marksAreNotMadeWithFault() {
        PageRows x = Words.way(2, 0, Words.of(9, Words.PRESENT | Words.READ));
        due.same("walk without right", x.walk(0, 1), 3);
        due.same("upper word", x.word(256), Words.next(17));
        due.same("leaf", x.word(272), Words.of(9, Words.PRESENT | Words.READ));
        due.same("entries", x.count(2), 0);
        // A mark once made is not taken back, and an entry's use marks nothing.
        due.same("walk", x.walk(0, 0), 0);
        x.table(272, Words.of(9, ALL_RIGHTS));
        x.table(256, Words.next(17));
        due.same("walk by the entry", x.walk(0, 0), 0);
        due.same("leaf behind the entry's use", x.word(272), Words.of(9, ALL_RIGHTS));
        due.same("upper word behind the entry's use", x.word(256), Words.next(17));
    }

    private static void sameWordReadTwice() {
        PageRows x = new PageRows(3, 2);
        x.table(0, Words.of(0, Words.PRESENT | Words.READ | Words.WRITE));
        walks(x, 0x11, 1, 0, 0x11);
        due.same("word", x.word(0), Words.PRESENT | Words.READ | Words.WRITE
                | Words.SEEN | Words.CHANGED);
        due.same("reads", x.count(4), 3);
        due.same("changed", x.kept(0, 5), 1);
    }

    private static void marksLieInHosts() {
        PageRows x = new PageRows(1, 2);
        x.hosts(true);
        x.host(0, 200);
        x.host(9, 1);
        x.table(0, Words.of(9, ALL_RIGHTS));
        x.table(3200, Words.of(9, ALL_RIGHTS));
        walks(x, 0, 1, 0, 256);
        due.same("word in the frame itself", x.word(0), Words.of(9, ALL_RIGHTS));
        due.same("word in the host", x.word(3200),
                Words.of(9, ALL_RIGHTS | Words.SEEN | Words.CHANGED));
    }

    private static void entryAnswersForItsPlaces() {
        PageRows x = new PageRows(3, 4);
        x.table(2, Words.of(0x500, Words.PRESENT | Words.READ | Words.LARGE));
        walks(x, 0x2ABCD, 0, 0, 0x5ABCD);
        x.table(2, 0);
        x.root(0, 99);
        due.same("walk by entry", x.walk(0x20000, 0), 0);
        due.same("to by entry", x.to(), 0x50000);
        due.same("walk by entry", x.walk(0x2FFFF, 0), 0);
        due.same("to by entry", x.to(), 0x5FFFF);
        due.same("by entries", x.count(5), 2);
        due.same("by walks", x.count(6), 1);
        due.same("reads", x.count(4), 1);
        due.same("walk beside", x.walk(0x30000, 0), 2);
        due.same("walk beside", x.walk(0x1FFFF, 0), 2);
        due.same("by walks", x.count(6), 3);
    }

    private static void entryAsksItsRight() {
        PageRows x = Words.way(2, 0, Words.of(9, Words.PRESENT | Words.READ));
        x.walk(0, 0);
        // The table would allow it now, but the entry does not know.
        x.table(272, Words.of(9, ALL_RIGHTS));
        int[] kinds = {1, 2, 3, 4, 5};
        for (int kind : kinds) {
            due.same("walk by entry, kind " + kind, x.walk(0, kind), 3);
            due.same("level by entry", x.level(), 2);
            due.same("to by entry", x.to(), PageRows.NONE);
        }
        due.same("by entries", x.count(5), 5);
        due.same("by walks", x.count(6), 1);
        due.same("faults", x.count(7), 5);
    }

    private static void writeByEntryNotChangedWalks() {
        PageRows x = Words.way(2, 0, Words.of(9, ALL_RIGHTS));
        x.walk(0, 0);
        due.same("write walks", x.walk(1, 1), 0);
        due.same("walks", x.count(6), 2);
        due.same("one entry", x.count(2), 1);
        due.same("changed now", x.kept(0, 5), 1);
        due.same("user's write by entry", x.walk(2, 4), 0);
        due.same("walks", x.count(6), 2);
        due.same("by entries", x.count(5), 1);
        due.same("reads", x.count(4), 4);
        // With a fault in that walk the entry stays where and as it was.
        PageRows y = Words.way(1, 0, Words.of(9, ALL_RIGHTS));
        y.table(257, Words.of(10, ALL_RIGHTS));
        y.walk(0, 0);
        y.walk(256, 0);
        y.table(256, 0);
        due.same("write walks to a fault", y.walk(0, 1), 2);
        due.same("its level", y.level(), 0);
        due.same("entries", y.count(2), 2);
        due.same("the entry was not used", y.kept(0, 3), 10);
        due.same("the entry is still there", y.walk(5, 0), 0);
        due.same("and answers", y.to(), 9 * 256 + 5);
    }

    private static void entryIsMappedAtEachUse() {
        PageRows x = Words.way(1, 0, Words.of(9, ALL_RIGHTS));
        x.walk(0, 0);
        x.hosts(true);
        due.same("no host", x.walk(3, 0), 6);
        due.same("level", x.level(), 1);
        due.same("to", x.to(), PageRows.NONE);
        x.host(9, 77);
        due.same("host", x.walk(3, 0), 0);
        due.same("to", x.to(), 77 * 256 + 3);
        x.host(9, 65535);
        due.same("other host", x.walk(3, 0), 0);
        due.same("to", x.to(), 65535 * 256 + 3);
        x.hosts(false);
        due.same("hosts off", x.walk(3, 0), 0);
        due.same("to", x.to(), 9 * 256 + 3);
        due.same("by entries", x.count(5), 4);
        due.same("by walks", x.count(6), 1);
        due.same("faults", x.count(7), 1);
        PageRows high = Words.way(1, 0, Words.of(256, ALL_RIGHTS));
        high.walk(0, 0);
        high.hosts(true);
        due.same("above 255", high.walk(0, 0), 6);
        due.same("by entry", high.count(5), 1);
        // An entry without right and host tells the right first.
        PageRows both = Words.way(1, 0, Words.of(9, Words.PRESENT | Words.READ));
        both.walk(0, 0);
        both.hosts(true);
        due.same("right ahead of host", both.walk(0, 2), 3);
    }

    private static void latestUsedEntryAnswers() {
        PageRows x = new PageRows(2, 4);
        x.table(0, Words.of(0x40, Words.PRESENT | Words.READ | Words.WRITE | Words.LARGE));
        x.walk(0x200, 0);
        x.table(0, Words.next(20));
        x.table(20 * 16 + 3, Words.of(0x50, ALL_RIGHTS));
        due.same("write walks beside the large entry", x.walk(0x345, 1), 0);
        due.same("to", x.to(), 0x5045);
        due.same("two entries", x.count(2), 2);
        x.walk(0x346, 0);
        due.same("the small one was used last", x.to(), 0x5046);
        x.walk(0x200, 0);
        due.same("the large one alone", x.to(), 0x4200);
        x.walk(0x347, 0);
        due.same("now the large one was used last", x.to(), 0x4347);
        // The large one is not changed, so a write walks, though the small one is changed.
        int walks = x.count(6);
        due.same("write", x.walk(0x348, 1), 0);
        due.same("write walked", x.count(6), walks + 1);
        due.same("to", x.to(), 0x5048);
        due.same("still two entries", x.count(2), 2);
        due.same("the small one is first again", x.kept(0, 1), 0);
    }

    private static void wrongKindIsRefused() {
        PageRows x = Words.way(1, 0, Words.of(9, ALL_RIGHTS));
        int[] kinds = {-1, 6, Integer.MIN_VALUE, Integer.MAX_VALUE};
        for (int kind : kinds) {
            due.illegal("walk(0, " + kind + ")", () -> x.walk(0, kind));
            due.illegal("walk(-1, " + kind + ")", () -> x.walk(-1, kind));
            due.illegal("plain(0, " + kind + ")", () -> x.plain(0, kind));
            due.illegal("plain(-1, " + kind + ")", () -> x.plain(-1, kind));
        }
        due.same("walks", x.count(6), 0);
        due.same("faults", x.count(7), 0);
    }

    private static void toAndLevelTellTheLatestWalk() {
        PageRows x = Words.way(2, 0, Words.of(9, ALL_RIGHTS));
        x.walk(0x100, 0);
        due.same("level of a fault", x.level(), 1);
        due.same("to of a fault", x.to(), PageRows.NONE);
        x.walk(5, 0);
        due.same("level without fault", x.level(), PageRows.NONE);
        due.same("to without fault", x.to(), 9 * 256 + 5);
        x.plain(0x100, 0);
        x.plain(7, 0);
        x.stale(1);
        x.flush(0, 0);
        x.table(272, 0);
        x.context(1);
        due.same("level is as it was", x.level(), PageRows.NONE);
        due.same("to is as it was", x.to(), 9 * 256 + 5);
        x.context(0);
        x.walk(5, 0);
        x.plain(0x1000, 0);
        due.same("level of the fault", x.level(), 1);
        due.same("to of the fault", x.to(), PageRows.NONE);
        x.walk(-1, 0);
        due.same("level outside", x.level(), 0);
    }

    private static void plainLeavesAllAsItWas() {
        PageRows x = Words.way(2, 0, Words.of(9, ALL_RIGHTS));
        due.same("plain write", x.plain(3, 1), 9 * 256 + 3);
        due.same("plain fault", x.plain(0x100, 1), -2);
        due.same("upper word", x.word(256), Words.next(17));
        due.same("leaf", x.word(272), Words.of(9, ALL_RIGHTS));
        for (int what = 2; what <= 8; what++) {
            due.same("count(" + what + ")", x.count(what), 0);
        }
        x.table(273, Words.of(10, ALL_RIGHTS));
        x.walk(0, 0);
        x.walk(256, 0);
        x.plain(0, 0);
        due.same("order of use", x.kept(0, 3), 10);
        due.same("words read", x.count(4), 4);
    }

    private static void plainKnowsNoEntries() {
        PageRows x = Words.way(1, 0, Words.of(9, ALL_RIGHTS));
        x.walk(0, 0);
        x.table(256, Words.of(11, Words.PRESENT | Words.READ));
        due.same("plain", x.plain(1, 0), 11 * 256 + 1);
        due.same("plain write", x.plain(1, 1), -3);
        due.same("walk", x.walk(1, 0), 0);
        due.same("to by the old entry", x.to(), 9 * 256 + 1);
    }
}
