/** The boundary cases of kept entries, sentence by sentence: the terms, and promises 12 to 15. */
public final class KeptEdgeTest {
    private static final int MIN = Integer.MIN_VALUE;
    private static final int MAX = Integer.MAX_VALUE;
    private static final long ALL = Words.ALL_RIGHTS;
    private static final long READ = Words.PRESENT | Words.READ;
    private static final Due due = new Due();
    private static final Refusals refused = new Refusals(due);

    public static void main(String[] args) {
        due.each(
            KeptEdgeTest::upToN,
            KeptEdgeTest::partsAtTheirEnds,
            KeptEdgeTest::leafsFrameIsNotMapped,
            KeptEdgeTest::changedBehindTheWalk,
            KeptEdgeTest::changedLaterIsNotKnown,
            KeptEdgeTest::orderOfLastUse,
            KeptEdgeTest::entryOfTheContext,
            KeptEdgeTest::entryWhoseBitsAreThePlaces,
            KeptEdgeTest::oneUsedLastOfSeveral,
            KeptEdgeTest::rightIsAsked,
            KeptEdgeTest::entryWithoutRightIsUsed,
            KeptEdgeTest::writeByAnEntryNotChanged,
            KeptEdgeTest::writeByTheOneUsedLast,
            KeptEdgeTest::writeThatWalksToAFault,
            KeptEdgeTest::writeWithoutAnEntry,
            KeptEdgeTest::frameIsMappedAtEachUse,
            KeptEdgeTest::walkWithFaultGivesNone,
            KeptEdgeTest::oneOfTheSameGoesBefore,
            KeptEdgeTest::oneOfTheSameMakesRoom,
            KeptEdgeTest::oneUsedLongestAgoGoes,
            KeptEdgeTest::flushOfNone,
            KeptEdgeTest::flushOfAll,
            KeptEdgeTest::flushOfTheContext,
            KeptEdgeTest::flushOfThePlace,
            KeptEdgeTest::flushOfALargePlace,
            KeptEdgeTest::flushOfAPlaceOutside,
            KeptEdgeTest::flushAnswersHowMany,
            KeptEdgeTest::flushOfAnotherWhat,
            KeptEdgeTest::keptFirstAndLast,
            KeptEdgeTest::keptOfNone,
            KeptEdgeTest::keptOfAnotherWhat,
            KeptEdgeTest::keptOfBoth,
            KeptEdgeTest::staleOfNone,
            KeptEdgeTest::staleOfAll,
            KeptEdgeTest::staleOfTheContext,
            KeptEdgeTest::staleForTheFirstPlace,
            KeptEdgeTest::staleElsewhere,
            KeptEdgeTest::staleToAFault,
            KeptEdgeTest::staleByItsRight,
            KeptEdgeTest::staleByHostsAsTheyAre,
            KeptEdgeTest::staleOfBothFaults,
            KeptEdgeTest::staleAsksNoMark,
            KeptEdgeTest::staleChangesNothing,
            KeptEdgeTest::staleOfNoKind,
            KeptEdgeTest::countsAtFirst,
            KeptEdgeTest::countOfLevelsAndRoom,
            KeptEdgeTest::countOfEntries,
            KeptEdgeTest::countOfTheContext,
            KeptEdgeTest::countOfReads,
            KeptEdgeTest::countByEntries,
            KeptEdgeTest::countByWalks,
            KeptEdgeTest::countOfFaults,
            KeptEdgeTest::countOfWantOfRoom,
            KeptEdgeTest::countOfAnotherWhat);
    }

    /** One level; page i of context c is frame 100 + 16 c + i, for all of them. */
    private static PageRows pages(int entries) {
        PageRows x = new PageRows(1, entries);
        for (int at = 0; at < 64; at++) {
            x.table(at, Words.of(100 + at, Words.PRESENT | Words.READ | Words.WRITE));
        }
        return x;
    }

    /** Reads pages by their numbers, 16 for each context; context 0 is the context behind it. */
    private static void read(PageRows x, int... pages) {
        for (int page : pages) {
            x.context(page / 16);
            due.same("walk to page " + page, x.walk(page % 16 * 256, 0), 0);
        }
        x.context(0);
    }

    /** Reads pages 0, 1, .., so many of them. */
    private static void fill(PageRows x, int pages) {
        int[] numbers = new int[pages];
        for (int page = 0; page < pages; page++) {
            numbers[page] = page;
        }
        read(x, numbers);
    }

    /** The kept pages by their numbers, as in read(), the one used last first. */
    private static void order(PageRows x, int... pages) {
        due.same("entries", x.count(2), pages.length);
        for (int k = 0; k < Math.min(pages.length, x.count(2)); k++) {
            due.same("page of entry " + k, x.kept(k, 0) * 16 + x.kept(k, 2), pages[k]);
        }
    }

    /** Two levels; first a large entry of places 0 .. 0xFFF, then one of page 3 was used. */
    private static PageRows several(long large, long small) {
        PageRows x = new PageRows(2, 4);
        x.table(0, Words.of(0x40, large | Words.LARGE));
        due.same("walk of the large one", x.walk(0x200, 0), 0);
        x.table(0, Words.next(20));
        x.table(20 * 16 + 3, Words.of(0x50, small));
        due.same("walk of the small one", x.walk(0x300, 1), 0);
        due.same("entries", x.count(2), 2);
        return x;
    }

    private static void upToN() {
        due.sentence("KEPT ENTRIES: up to N");
        for (int n = 1; n <= 32; n++) {
            PageRows x = pages(n);
            due.same("at first", x.count(2), 0);
            fill(x, n - 1);
            due.same("one fewer than N", x.count(2), n - 1);
            read(x, n - 1);
            due.same("N", x.count(2), n);
            due.same("none has gone", x.count(8), 0);
            read(x, n);
            due.same("one more than N", x.count(2), n);
            due.same("one has gone", x.count(8), 1);
        }
    }

    private static void partsAtTheirEnds() {
        due.sentence("a context, a LARGENESS, the place's bits, the leaf's frame, its bits 1 to 4");
        PageRows high = Words.way(4, 0xFFFFFF, Words.of(0xFFFFF, ALL));
        high.context(3);
        high.root(3, 16);
        high.walk(0xFFFFFF, 1);
        due.same("highest bits", Shown.entries(high), ", entry 3 0 65535 1048575 15 1");
        PageRows low = Words.way(4, 0, Words.of(0, Words.PRESENT | Words.READ));
        low.walk(0, 0);
        due.same("lowest bits", Shown.entries(low), ", entry 0 0 0 0 1 0");
        int[] bits = {0xFFFF, 0xFFF, 0xFF, 0xF};
        int[] frames = {0xFFFFF, 0xFFFF0, 0xFFF00, 0xFF000};
        for (int behind = 0; behind <= 3; behind++) {
            PageRows x = Words.way(4, 0xFFFFFF, 0);
            x.table((19 - behind) * 16 + 15, Words.of(frames[behind], ALL | Words.LARGE));
            x.walk(0xFFFFFF, 0);
            due.same("largeness " + behind, Shown.entries(x),
                    ", entry 0 " + behind + " " + bits[behind] + " " + frames[behind] + " 15 0");
        }
    }

    private static void leafsFrameIsNotMapped() {
        due.sentence("the leaf's frame (not mapped)");
        PageRows x = new PageRows(2, 2);
        x.hosts(true);
        x.host(0, 0);
        x.host(0xFF, 65535);
        x.table(0, Words.of(0xF0, ALL | Words.LARGE));
        due.same("walk", x.walk(0xF00, 0), 0);
        due.same("frame", x.kept(0, 3), 0xF0);
    }

    private static void changedBehindTheWalk() {
        due.sentence("whether it was CHANGED behind the walk");
        for (int kind = 0; kind < 6; kind++) {
            PageRows x = Words.way(1, 0, Words.of(9, ALL));
            x.walk(0, kind);
            due.same("kind " + kind, x.kept(0, 5), kind == 1 || kind == 4 ? 1 : 0);
            PageRows before = Words.way(1, 0, Words.of(9, ALL | Words.CHANGED));
            before.walk(0, kind);
            due.same("kind " + kind + ", changed before", before.kept(0, 5), 1);
        }
        PageRows upper = Words.way(2, 0, Words.of(9, ALL));
        upper.table(256, Words.next(17) | Words.CHANGED);
        upper.walk(0, 0);
        due.same("an upper word's mark is not the leaf's", upper.kept(0, 5), 0);
    }

    private static void changedLaterIsNotKnown() {
        due.sentence("whether it was CHANGED behind the walk, and not what came later");
        PageRows laid = Words.way(1, 0, Words.of(9, ALL));
        laid.walk(0, 0);
        laid.table(256, Words.of(9, ALL | Words.CHANGED));
        due.same("changed by table()", laid.kept(0, 5), 0);
        due.same("write", laid.walk(0, 1), 0);
        due.same("it walks", laid.count(6), 2);
        // Two contexts with one table: the write of the one is not known to the other's entry.
        PageRows shared = Words.way(1, 0, Words.of(9, ALL));
        shared.root(1, 16);
        shared.walk(0, 0);
        shared.context(1);
        due.same("write in context 1", shared.walk(0, 1), 0);
        due.same("the entries", Shown.entries(shared), ", entry 1 0 0 9 15 1, entry 0 0 0 9 15 0");
        shared.context(0);
        due.same("write in context 0", shared.walk(0, 4), 0);
        due.same("it walks", shared.count(6), 3);
        due.same("the entries", Shown.entries(shared), ", entry 0 0 0 9 15 1, entry 1 0 0 9 15 1");
        // Nor does an entry lose what it had.
        shared.table(256, Words.of(9, ALL));
        due.same("write once more", shared.walk(0, 1), 0);
        due.same("by the entry", shared.count(5), 1);
        due.same("the word bears no mark", shared.word(256), Words.of(9, ALL));
    }

    private static void orderOfLastUse() {
        due.sentence("They are in the order of their last use");
        PageRows x = pages(4);
        read(x, 0, 1, 2, 3);
        order(x, 3, 2, 1, 0);
        read(x, 3);
        order(x, 3, 2, 1, 0);
        read(x, 0);
        order(x, 0, 3, 2, 1);
        read(x, 2);
        order(x, 2, 0, 3, 1);
        PageRows one = pages(1);
        read(one, 5, 5, 5);
        order(one, 5);
        PageRows full = pages(32);
        fill(full, 32);
        read(full, 0);
        due.same("page 0 is first", full.kept(0, 3), 100);
        due.same("page 31 is next", full.kept(1, 3), 131);
        due.same("page 1 is last", full.kept(31, 3), 101);
    }

    private static void entryOfTheContext() {
        due.sentence("TRANSLATING: an entry of the context");
        PageRows x = pages(8);
        for (int c = 0; c < 4; c++) {
            x.context(c);
            x.walk(0, 0);
            due.same("to in context " + c, x.to(), (100 + 16 * c) * 256);
            due.same("by walks", x.count(6), c + 1);
        }
        for (int c = 0; c < 4; c++) {
            x.context(c);
            x.walk(0, 0);
            due.same("to in context " + c, x.to(), (100 + 16 * c) * 256);
            due.same("by entries", x.count(5), c + 1);
        }
    }

    private static void entryWhoseBitsAreThePlaces() {
        due.sentence("TRANSLATING: an entry whose bits are the place's");
        int[] first = {0x123400, 0x123000, 0x120000, 0x100000};
        int[] last = {0x1234FF, 0x123FFF, 0x12FFFF, 0x1FFFFF};
        for (int behind = 0; behind <= 3; behind++) {
            PageRows x = Words.way(4, 0x123400, 0);
            int index = 0x1234 >> 4 * behind & 15;
            x.table((19 - behind) * 16 + index, Words.of(0x1000, READ | Words.LARGE));
            due.same("walk", x.walk(0x123456, 0), 0);
            x.table(16 * 16 + 1, 0);
            due.same("first place", x.walk(first[behind], 0), 0);
            due.same("to", x.to(), 0x100000);
            due.same("last place", x.walk(last[behind], 0), 0);
            due.same("to", x.to(), 0x100000 + last[behind] - first[behind]);
            due.same("place ahead", x.walk(first[behind] - 1, 0), 2);
            due.same("place behind", x.walk(last[behind] + 1, 0), 2);
            due.same("by entries", x.count(5), 2);
            due.same("by walks", x.count(6), 3);
        }
    }

    private static void oneUsedLastOfSeveral() {
        due.sentence("TRANSLATING: (the one used last, of several)");
        PageRows x = several(ALL, ALL);
        x.walk(0x345, 0);
        due.same("the small one was used last", x.to(), 0x5045);
        x.walk(0x245, 0);
        due.same("the large one alone", x.to(), 0x4245);
        x.walk(0x345, 0);
        due.same("the large one was used last", x.to(), 0x4345);
        due.same("and stays first", x.kept(0, 1), 1);
        due.same("by entries", x.count(5), 3);
        // Its right is the one that is asked.
        PageRows y = several(READ | Words.WRITE, ALL);
        due.same("run by the small one", y.walk(0x345, 2), 0);
        y.walk(0x245, 0);
        due.same("run by the large one", y.walk(0x345, 2), 3);
    }

    private static void rightIsAsked() {
        due.sentence("TRANSLATING: its right is asked (fault 3, no walk)");
        int[] needed = {1, 2, 4, 9, 10, 12};
        for (int rights = 1; rights < 16; rights++) {
            if (rights == 8) {
                continue; // No kind makes an entry of USER alone.
            }
            int maker = (rights & 1) != 0 ? 0 : (rights & 2) != 0 ? 1 : 2;
            for (int kind = 0; kind < 6; kind++) {
                PageRows x = Words.way(2, 0, Words.of(9, Words.PRESENT + 2 * rights
                        + Words.CHANGED));
                due.same("walk", x.walk(0, maker), 0);
                x.table(272, Words.of(10, ALL));
                boolean allowed = (rights & needed[kind]) == needed[kind];
                due.same("kind " + kind + " of " + rights, x.walk(0, kind), allowed ? 0 : 3);
                due.same("level", x.level(), allowed ? PageRows.NONE : 2);
                due.same("to", x.to(), allowed ? 9 * 256 : PageRows.NONE);
                due.same("by entries", x.count(5), 1);
                due.same("by walks", x.count(6), 1);
                due.same("words read", x.count(4), 2);
            }
        }
    }

    private static void entryWithoutRightIsUsed() {
        due.sentence("TRANSLATING: (fault 3 ..; it is used)");
        PageRows x = pages(3);
        read(x, 0, 1, 2);
        due.same("fault 3 of page 0", x.walk(0, 5), 3);
        order(x, 0, 2, 1);
        read(x, 3);
        order(x, 3, 0, 2);
        // A write is refused by the entry's right ahead of its want of the mark.
        PageRows y = Words.way(1, 0, Words.of(9, READ));
        y.walk(0, 0);
        y.table(256, Words.of(9, ALL));
        due.same("write", y.walk(0, 1), 3);
        due.same("by entries", y.count(5), 1);
        due.same("by walks", y.count(6), 1);
    }

    private static void writeByAnEntryNotChanged() {
        due.sentence("TRANSLATING: a write by an entry not CHANGED walks");
        int[] writes = {1, 4};
        for (int kind : writes) {
            PageRows x = Words.way(1, 0, Words.of(9, ALL));
            x.walk(0, 0);
            x.table(256, Words.of(10, ALL));
            due.same("write", x.walk(0, kind), 0);
            due.same("to, by the tables", x.to(), 10 * 256);
            due.same("by walks", x.count(6), 2);
            due.same("the entry", Shown.entries(x), ", entry 0 0 0 10 15 1");
            x.table(256, Words.of(11, ALL));
            due.same("write by an entry CHANGED", x.walk(0, kind), 0);
            due.same("to, by the entry", x.to(), 10 * 256);
            due.same("by entries", x.count(5), 1);
        }
        // A read or a run by it does not walk.
        PageRows y = Words.way(1, 0, Words.of(9, ALL));
        y.walk(0, 0);
        int[] others = {0, 2, 3, 5};
        for (int kind : others) {
            y.walk(0, kind);
        }
        due.same("by entries", y.count(5), 4);
    }

    private static void writeByTheOneUsedLast() {
        due.sentence("TRANSLATING: (the one used last, of several): a write by it walks");
        // The small one is CHANGED, the large one that is used behind it is not.
        PageRows x = several(ALL, ALL);
        x.walk(0x245, 0);
        due.same("by walks so far", x.count(6), 2);
        due.same("write", x.walk(0x345, 1), 0);
        due.same("it walks", x.count(6), 3);
        due.same("to, by the tables", x.to(), 0x5045);
        // Now the small one was used last.
        due.same("write again", x.walk(0x346, 1), 0);
        due.same("no walk", x.count(6), 3);
        // The right of the one used last is asked, though the other one has it.
        PageRows y = new PageRows(2, 4);
        y.table(0, Words.next(20));
        y.table(20 * 16 + 3, Words.of(0x50, ALL));
        due.same("walk of the small one", y.walk(0x300, 1), 0);
        y.table(0, Words.of(0x40, READ | Words.LARGE));
        due.same("walk of the large one", y.walk(0x245, 0), 0);
        due.same("write", y.walk(0x345, 1), 3);
        due.same("no walk", y.count(6), 2);
    }

    private static void writeThatWalksToAFault() {
        due.sentence("TRANSLATING: walks, as if the entry were not there");
        long[] words = {0, Words.of(10, READ)};
        int[] faults = {2, 3};
        for (int i = 0; i < words.length; i++) {
            PageRows x = pages(3);
            read(x, 0, 1);
            String before = Shown.entries(x);
            x.table(0, words[i]);
            due.same("write", x.walk(0, 1), faults[i]);
            due.same("level, by the walk", x.level(), 0);
            due.same("entries are as they were", Shown.entries(x), before);
            due.same("word is as it was", x.word(0), words[i]);
            due.same("by entries", x.count(5), 0);
            due.same("by walks", x.count(6), 3);
            due.same("read by the entry", x.walk(0, 0), 0);
        }
    }

    private static void writeWithoutAnEntry() {
        due.sentence("TRANSLATING: and so does one when there is none");
        for (int kind = 0; kind < 6; kind++) {
            PageRows x = Words.way(1, 0, Words.of(9, ALL));
            due.same("kind " + kind, x.walk(0, kind), 0);
            due.same("by walks", x.count(6), 1);
            due.same("by entries", x.count(5), 0);
        }
    }

    private static void frameIsMappedAtEachUse() {
        due.sentence("The frame is mapped by hosts at each use (6)");
        PageRows x = pages(4);
        read(x, 0, 1);
        x.hosts(true);
        due.same("no host", x.walk(5, 0), 6);
        due.same("it is used", x.kept(0, 3), 100);
        int[] hosts = {0, 1, 65535};
        for (int host : hosts) {
            x.host(100, host);
            due.same("walk", x.walk(5, 0), 0);
            due.same("to", x.to(), host * 256 + 5);
        }
        x.host(100, PageRows.NONE);
        due.same("no host any more", x.walk(5, 0), 6);
        due.same("level", x.level(), 1);
        x.hosts(false);
        due.same("hosts off", x.walk(5, 0), 0);
        due.same("to", x.to(), 100 * 256 + 5);
        due.same("all by the entry", x.count(5), 6);
        PageRows ends = new PageRows(1, 4);
        ends.table(0, Words.of(255, READ));
        ends.table(1, Words.of(256, READ));
        read(ends, 0, 1);
        ends.hosts(true);
        ends.host(255, 3);
        due.same("frame 255", ends.walk(0, 0), 0);
        due.same("frame 256", ends.walk(0x100, 0), 6);
    }

    private static void walkWithFaultGivesNone() {
        due.sentence("A walk without fault gives an entry");
        PageRows x = Words.way(2, 0, Words.of(9, READ));
        x.table(257, Words.of(1, ALL | Words.LARGE));
        x.table(258, Words.next(256));
        int[] places = {-1, 0x100, 0, 0x1000, 0x2000};
        int[] kinds = {0, 0, 1, 0, 0};
        for (int i = 0; i < places.length; i++) {
            due.same("walk", x.walk(places[i], kinds[i]), i + 1);
            due.same("entries behind fault " + (i + 1), x.count(2), 0);
        }
        x.hosts(true);
        x.host(16, 16);
        x.host(17, 17);
        due.same("walk", x.walk(0, 0), 6);
        due.same("entries behind fault 6", x.count(2), 0);
        x.hosts(false);
        due.same("walk", x.walk(0, 0), 0);
        due.same("entries without fault", x.count(2), 1);
        // A fault makes no room either.
        PageRows full = pages(1);
        read(full, 0);
        due.same("walk", full.walk(0x100, 2), 3);
        order(full, 0);
        due.same("none has gone", full.count(8), 0);
    }

    private static void oneOfTheSameGoesBefore() {
        due.sentence("one of the same context, largeness and bits goes before");
        PageRows x = pages(4);
        read(x, 0, 1, 2);
        due.same("write to page 0", x.walk(0, 1), 0);
        order(x, 0, 2, 1);
        read(x, 16);
        order(x, 16, 0, 2, 1);
        PageRows y = several(ALL, ALL);
        due.same("largeness of the first", y.kept(0, 1), 0);
        due.same("another largeness stays", y.kept(1, 1), 1);
        y.walk(0x245, 0);
        due.same("write by the large one walks", y.walk(0x3FF, 1), 0);
        due.same("the small one went before, the large one stays", Shown.entries(y),
                ", entry 0 0 3 80 15 1, entry 0 1 0 64 15 0");
    }

    private static void oneOfTheSameMakesRoom() {
        due.sentence("one of the same .. goes before: none goes for want of room then");
        for (int page = 0; page < 3; page++) {
            PageRows x = pages(3);
            read(x, 0, 1, 2);
            due.same("write to page " + page, x.walk(page * 256, 1), 0);
            due.same("entries", x.count(2), 3);
            due.same("first", x.kept(0, 2), page);
            due.same("none has gone", x.count(8), 0);
        }
        PageRows one = pages(1);
        read(one, 0);
        due.same("write with room for one", one.walk(0, 1), 0);
        due.same("none has gone", one.count(8), 0);
    }

    private static void oneUsedLongestAgoGoes() {
        due.sentence("when there are N the one used longest ago goes");
        PageRows x = pages(3);
        read(x, 0, 1, 2, 3);
        order(x, 3, 2, 1);
        read(x, 1, 4);
        order(x, 4, 1, 3);
        read(x, 16, 17, 18);
        order(x, 18, 17, 16);
        due.same("they went", x.count(8), 5);
        PageRows one = pages(1);
        read(one, 0, 1, 0);
        order(one, 0);
        due.same("they went", one.count(8), 2);
        PageRows full = pages(32);
        fill(full, 32);
        read(full, 0, 32);
        due.same("the new one is first", full.kept(0, 3), 132);
        due.same("page 0 stays", full.kept(1, 3), 100);
        due.same("page 1 has gone", full.kept(31, 3), 102);
    }

    private static void flushOfNone() {
        due.sentence("flush: Forgets kept entries: how many, of none");
        PageRows x = pages(4);
        for (int what = 0; what <= 2; what++) {
            due.same("flush(" + what + ", 0)", x.flush(what, 0), 0);
        }
        due.same("entries", x.count(2), 0);
    }

    private static void flushOfAll() {
        due.sentence("flush: what 0 all");
        int[] places = {0, 0x300, 0x1000, -1, MIN, MAX};
        for (int place : places) {
            PageRows x = pages(32);
            fill(x, 32);
            x.context(3);
            due.same("flush(0, " + place + ") of 32", x.flush(0, place), 32);
            due.same("entries", x.count(2), 0);
            due.same("flush again", x.flush(0, place), 0);
            due.same("none went for want of room", x.count(8), 0);
            due.same("walks so far", x.count(6), 32);
            read(x, 0);
            due.same("a walk again", x.count(6), 33);
        }
    }

    private static void flushOfTheContext() {
        due.sentence("flush: 1 those of the context");
        int[] places = {0, 0x100, 0x1000, -1, MIN, MAX};
        for (int place : places) {
            PageRows x = pages(8);
            read(x, 0, 16, 1, 48, 2);
            x.context(2);
            due.same("of a context without any", x.flush(1, place), 0);
            x.context(0);
            due.same("flush(1, " + place + ")", x.flush(1, place), 3);
            order(x, 48, 16);
            x.context(3);
            due.same("of context 3", x.flush(1, place), 1);
            order(x, 16);
        }
    }

    private static void flushOfThePlace() {
        due.sentence("flush: 2 those of the context whose bits are the place's");
        PageRows x = pages(8);
        read(x, 0, 15, 16, 1);
        due.same("page that is not kept", x.flush(2, 0x2FF), 0);
        due.same("first place of page 1", x.flush(2, 0x100), 1);
        order(x, 16, 15, 0);
        due.same("once more", x.flush(2, 0x100), 0);
        due.same("last place of page 15", x.flush(2, 0xFFF), 1);
        order(x, 16, 0);
        due.same("last place of page 0", x.flush(2, 0xFF), 1);
        order(x, 16);
        due.same("the other context's stays", x.flush(2, 0), 0);
        x.context(1);
        due.same("until the context is its own", x.flush(2, 0), 1);
        due.same("entries", x.count(2), 0);
    }

    private static void flushOfALargePlace() {
        due.sentence("flush: those .. whose bits are the place's, of every largeness");
        PageRows both = several(ALL, ALL);
        due.same("place of both", both.flush(2, 0x3FF), 2);
        due.same("entries", both.count(2), 0);
        int[] ends = {0, 0x2FF, 0x400, 0xFFF};
        for (int place : ends) {
            PageRows x = several(ALL, ALL);
            due.same("place of the large one", x.flush(2, place), 1);
            due.same("largeness of the one that stays", x.kept(0, 1), 0);
        }
        due.same("place behind both", several(ALL, ALL).flush(2, 0x1000), 0);
        due.same("last place of two levels", several(ALL, ALL).flush(2, 0xFFFF), 0);
    }

    private static void flushOfAPlaceOutside() {
        due.sentence("flush: (of a place outside none)");
        for (int levels = 1; levels <= 4; levels++) {
            int end = 1 << (8 + 4 * levels);
            PageRows x = Words.way(levels, 0, Words.of(9, ALL));
            x.walk(0, 0);
            PageRows y = Words.way(levels, end - 1, Words.of(9, ALL));
            y.walk(end - 1, 0);
            for (int bit = 8 + 4 * levels; bit < 32; bit++) {
                due.same("place of bit " + bit, x.flush(2, 1 << bit), 0);
                due.same("place of bit " + bit, y.flush(2, (1 << bit) + end - 1), 0);
            }
            due.same("place -1", y.flush(2, -1), 0);
            due.same("place MAX", y.flush(2, MAX), 0);
            due.same("the first place", x.flush(2, 0), 1);
            due.same("the last place", y.flush(2, end - 1), 1);
        }
    }

    private static void flushAnswersHowMany() {
        due.sentence("flush: the others stay in their order");
        PageRows x = pages(6);
        read(x, 0, 16, 1, 17, 2, 18);
        due.same("flush of page 1", x.flush(2, 0x100), 1);
        order(x, 18, 2, 17, 16, 0);
        due.same("flush of the context", x.flush(1, 0), 2);
        order(x, 18, 17, 16);
        read(x, 5, 6, 7, 8);
        order(x, 8, 7, 6, 5, 18, 17);
        due.same("one went for want of room", x.count(8), 1);
    }

    private static void flushOfAnotherWhat() {
        due.sentence("flush: IllegalArgumentException, for another what");
        int[] whats = {MIN, -3, -1, 3, 4, MAX};
        for (int what : whats) {
            refused.illegal("flush(" + what + ", 0)", x -> x.flush(what, 0));
            refused.illegal("flush(" + what + ", -1)", x -> x.flush(what, -1));
        }
    }

    private static void keptFirstAndLast() {
        due.sentence("kept: Of the k-th kept entry, the one used last first");
        int[] rooms = {1, 2, 32};
        for (int n : rooms) {
            PageRows x = pages(n);
            fill(x, n);
            due.same("kept(0, 3)", x.kept(0, 3), 100 + n - 1);
            due.same("kept(N - 1, 3)", x.kept(n - 1, 3), 100);
            due.same("kept(0, 0)", x.kept(0, 0), (n - 1) / 16);
            due.same("kept(0, 2)", x.kept(0, 2), (n - 1) % 16);
        }
        PageRows x = pages(2);
        fill(x, 2);
        String before = Shown.of(x);
        x.kept(1, 5);
        due.same("kept() uses nothing", Shown.of(x), before);
    }

    private static void keptOfNone() {
        due.sentence("kept: IndexOutOfBoundsException, when there is none");
        int[] none = {MIN, -1, 0, 1, 32, MAX};
        for (int k : none) {
            PageRows empty = pages(4);
            due.outOfBounds("kept(" + k + ", 0) of none", () -> empty.kept(k, 0));
            PageRows flushed = pages(4);
            read(flushed, 0, 1);
            flushed.flush(0, 0);
            due.outOfBounds("kept(" + k + ", 0) behind a flush", () -> flushed.kept(k, 0));
        }
        for (int what = 0; what <= 5; what++) {
            int part = what;
            PageRows x = pages(4);
            read(x, 0, 1);
            due.outOfBounds("kept(2, ..) of two", () -> x.kept(2, part));
            due.outOfBounds("kept(3, ..) of two", () -> x.kept(3, part));
            due.outOfBounds("kept(-1, ..) of two", () -> x.kept(-1, part));
            x.flush(2, 0);
            due.outOfBounds("kept(1, ..) of one", () -> x.kept(1, part));
        }
        PageRows full = pages(32);
        fill(full, 33);
        due.outOfBounds("kept(32, 0) of 32", () -> full.kept(32, 0));
        int[] never = {MIN, -1, 2, 32, MAX};
        for (int k : never) {
            refused.outOfBounds("kept(" + k + ", 0)", x -> x.kept(k, 0));
        }
    }

    private static void keptOfAnotherWhat() {
        due.sentence("kept: IndexOutOfBoundsException, for another what");
        int[] whats = {MIN, -1, 6, 7, MAX};
        for (int what : whats) {
            refused.outOfBounds("kept(0, " + what + ")", x -> x.kept(0, what));
            refused.outOfBounds("kept(1, " + what + ")", x -> x.kept(1, what));
        }
        PageRows x = pages(1);
        read(x, 0);
        int[] parts = {0, 0, 0, 100, 3, 0};
        for (int what = 0; what <= 5; what++) {
            due.same("kept(0, " + what + ")", x.kept(0, what), parts[what]);
        }
    }

    private static void keptOfBoth() {
        due.sentence("kept: IndexOutOfBoundsException, when there is none, or for another what");
        refused.outOfBounds("kept(-1, -1)", x -> x.kept(-1, -1));
        refused.outOfBounds("kept(2, 6)", x -> x.kept(2, 6));
        refused.outOfBounds("kept(MAX, MIN)", x -> x.kept(MAX, MIN));
    }

    private static void staleOfNone() {
        due.sentence("stale: Of how many kept entries it is so, of none");
        PageRows x = pages(4);
        for (int kind = 0; kind <= 5; kind++) {
            due.same("stale(" + kind + ")", x.stale(kind), 0);
        }
    }

    private static void staleOfAll() {
        due.sentence("stale: Of how many kept entries it is so, of all");
        PageRows x = new PageRows(2, 32);
        x.table(0, Words.next(16));
        x.table(1, Words.next(17));
        for (int page = 0; page < 32; page++) {
            x.table(256 + page, Words.of(page, READ));
            due.same("walk", x.walk(page * 256, 0), 0);
        }
        due.same("none of 32", x.stale(0), 0);
        x.table(256, 0);
        due.same("one of 32", x.stale(0), 1);
        x.table(1, 0);
        due.same("17 of 32", x.stale(0), 17);
        x.table(0, 0);
        due.same("32 of 32", x.stale(0), 32);
        x.flush(0, 0);
        due.same("behind a flush", x.stale(0), 0);
    }

    private static void staleOfTheContext() {
        due.sentence("stale: kept entries of the context");
        PageRows x = pages(8);
        read(x, 0, 1, 16);
        x.table(0, 0);
        x.table(1, 0);
        x.table(16, 0);
        int[] want = {2, 1, 0, 0};
        for (int c = 0; c < 4; c++) {
            x.context(c);
            due.same("context " + c, x.stale(0), want[c]);
        }
    }

    private static void staleForTheFirstPlace() {
        due.sentence("stale: for the first place that they stand for");
        int[] firsts = {0x123000, 0x120000, 0x100000};
        for (int behind = 1; behind <= 3; behind++) {
            PageRows x = Words.way(4, 0x123456, 0);
            int leaf = (19 - behind) * 16 + (0x1234 >> 4 * behind & 15);
            x.table(leaf, Words.of(0x1000, READ | Words.LARGE));
            due.same("walk", x.walk(0x123456, 0), 0);
            due.same("first place", x.plain(firsts[behind - 1], 0), 0x100000);
            // Smaller tables lead the first place, and it alone, to where it came to before.
            x.table(leaf, Words.next(40));
            x.table(40 * 16, Words.next(41));
            x.table(41 * 16, Words.next(42));
            x.table((39 + behind) * 16, Words.of(0x1000, READ));
            due.same("the place walked to", x.plain(0x123456, 0), -2);
            due.same("the first place", x.stale(0), 0);
            x.table((39 + behind) * 16, Words.of(0x1001, READ));
            due.same("the first place comes elsewhere", x.stale(0), 1);
        }
        PageRows last = Words.way(4, 0xFFFFFF, Words.of(9, READ));
        last.walk(0xFFFFFF, 0);
        due.same("the highest page", last.stale(0), 0);
        last.table(19 * 16 + 15, 0);
        due.same("the highest page, gone", last.stale(0), 1);
    }

    private static void staleElsewhere() {
        due.sentence("stale: plain() comes elsewhere");
        PageRows x = pages(2);
        x.table(0, Words.of(0, READ));
        read(x, 0);
        int[] frames = {1, 256, 0xFFFFF};
        for (int frame : frames) {
            x.table(0, Words.of(frame, READ));
            due.same("frame " + frame, x.stale(0), 1);
        }
        x.table(0, Words.of(0, READ | Words.CHANGED));
        due.same("the same frame", x.stale(0), 0);
        x.root(0, 2);
        due.same("by another root", x.stale(0), 1);
    }

    private static void staleToAFault() {
        due.sentence("stale: plain() comes to a fault");
        PageRows x = Words.way(2, 0, Words.of(0x20, READ));
        x.walk(0, 0);
        long[] uppers = {0, Words.of(0x21, READ | Words.LARGE), Words.next(256)};
        for (long upper : uppers) {
            x.table(256, upper);
            due.same("fault " + x.plain(0, 0), x.stale(0), 1);
        }
        x.table(256, Words.next(17));
        x.table(272, Words.of(0x20, Words.PRESENT));
        due.same("fault " + x.plain(0, 0), x.stale(0), 1);
        x.hosts(true);
        x.host(0x20, 0);
        due.same("fault " + x.plain(0, 0), x.stale(0), 1);
    }

    private static void staleByItsRight() {
        due.sentence("stale: or the entry's right does not do");
        PageRows x = Words.way(1, 0, Words.of(9, READ));
        x.walk(0, 0);
        x.table(256, Words.of(9, ALL));
        int[] want = {0, 1, 1, 1, 1, 1};
        for (int kind = 0; kind <= 5; kind++) {
            due.same("stale(" + kind + ")", x.stale(kind), want[kind]);
        }
        PageRows user = Words.way(1, 0, Words.of(9, READ | Words.USER));
        user.walk(0, 0);
        user.table(256, Words.of(9, READ));
        due.same("stale(0)", user.stale(0), 0);
        due.same("stale(3), no user any more", user.stale(3), 1);
    }

    private static void staleByHostsAsTheyAre() {
        due.sentence("stale: (its frame mapped by hosts as they are)");
        PageRows x = pages(4);
        read(x, 0);
        x.hosts(true);
        x.host(0, 1);
        x.host(100, 65535);
        due.same("entry somewhere, table to a fault", x.stale(0), 1);
        x.host(116, 0);
        due.same("both somewhere", x.stale(0), 1);
        x.host(116, 65535);
        due.same("both in one host", x.stale(0), 0);
        x.host(100, PageRows.NONE);
        due.same("entry to a fault, table somewhere", x.stale(0), 1);
        x.hosts(false);
        due.same("hosts off", x.stale(0), 0);
        PageRows high = new PageRows(1, 1);
        high.table(0, Words.of(256, READ));
        read(high, 0);
        high.hosts(true);
        high.host(0, 0);
        high.table(0, Words.of(255, READ));
        high.host(255, 7);
        due.same("entry above 255, table somewhere", high.stale(0), 1);
    }

    private static void staleOfBothFaults() {
        due.sentence("stale: (both faults, whichever: that is not so)");
        PageRows x = Words.way(2, 0, Words.of(9, READ));
        x.walk(0, 0);
        for (int kind = 1; kind <= 5; kind++) {
            due.same("3 and 3", x.stale(kind), 0);
        }
        x.table(272, 0);
        due.same("3 and 2", x.stale(1), 0);
        x.table(256, Words.of(17, READ | Words.LARGE));
        due.same("3 and 4", x.stale(1), 0);
        x.table(256, Words.next(256));
        due.same("3 and 5", x.stale(1), 0);
        x.hosts(true);
        due.same("3 and 6", x.stale(1), 0);
        due.same("6 and 6", x.stale(0), 0);
        x.host(16, 16);
        x.table(256, 0);
        due.same("6 and 2", x.stale(0), 0);
        x.host(16, 256);
        due.same("6 and 5", x.stale(0), 0);
    }

    private static void staleAsksNoMark() {
        due.sentence("stale: than the entry alone would tell, of a write not CHANGED too");
        PageRows x = Words.way(1, 0, Words.of(9, ALL));
        x.walk(0, 0);
        due.same("stale(1)", x.stale(1), 0);
        due.same("stale(4)", x.stale(4), 0);
        x.table(256, Words.of(10, ALL));
        due.same("stale(1)", x.stale(1), 1);
    }

    private static void staleChangesNothing() {
        due.sentence("stale: it tells, and nothing is kept, used, marked or counted");
        PageRows x = pages(4);
        read(x, 0, 1, 2);
        x.table(0, Words.of(7, ALL));
        x.table(1, 0);
        String before = Shown.of(x);
        for (int kind = 0; kind <= 5; kind++) {
            x.stale(kind);
        }
        due.same("the object", Shown.of(x), before);
    }

    private static void staleOfNoKind() {
        due.sentence("stale: IllegalArgumentException, when there is no such kind");
        int[] kinds = {MIN, -6, -2, -1, 6, 7, MAX};
        for (int kind : kinds) {
            refused.illegal("stale(" + kind + ")", x -> x.stale(kind));
        }
    }

    private static void countsAtFirst() {
        due.sentence("count: of a new object");
        PageRows x = new PageRows(3, 7);
        int[] want = {3, 7, 0, 0, 0, 0, 0, 0, 0};
        for (int what = 0; what <= 8; what++) {
            due.same("count(" + what + ")", x.count(what), want[what]);
        }
    }

    private static void countOfLevelsAndRoom() {
        due.sentence("count: L (0), N (1)");
        for (int levels = 1; levels <= 4; levels++) {
            for (int entries = 1; entries <= 32; entries++) {
                PageRows x = new PageRows(levels, entries);
                due.same("L", x.count(0), levels);
                due.same("N", x.count(1), entries);
            }
        }
    }

    private static void countOfEntries() {
        due.sentence("count: entries kept (2)");
        PageRows x = pages(2);
        int[] pages = {0, 0, 1, 2, 16};
        int[] want = {1, 1, 2, 2, 2};
        for (int i = 0; i < pages.length; i++) {
            read(x, pages[i]);
            due.same("entries", x.count(2), want[i]);
        }
        x.flush(1, 0);
        due.same("behind a flush", x.count(2), 1);
        x.flush(0, 0);
        due.same("behind a flush of all", x.count(2), 0);
    }

    private static void countOfTheContext() {
        due.sentence("count: the context (3)");
        PageRows x = pages(1);
        for (int c = 3; c >= 0; c--) {
            x.context(c);
            due.same("context", x.count(3), c);
        }
    }

    private static void countOfReads() {
        due.sentence("count: words read by walks (4)");
        PageRows x = Words.way(4, 0, Words.of(9, READ));
        int[] places = {-1, 0x100000, 0x010000, 0x001000, 0x000100, 0, 0};
        int[] want = {0, 1, 3, 6, 10, 14, 14};
        for (int i = 0; i < places.length; i++) {
            x.walk(places[i], 0);
            due.same("words read behind walk " + i, x.count(4), want[i]);
        }
        x.plain(0, 0);
        x.stale(0);
        due.same("behind plain() and stale()", x.count(4), 14);
    }

    private static void countByEntries() {
        due.sentence("count: translations by kept entries (5; faults by them, too)");
        PageRows x = pages(2);
        read(x, 0);
        due.same("none yet", x.count(5), 0);
        read(x, 0);
        due.same("one", x.count(5), 1);
        due.same("fault 3", x.walk(0, 2), 3);
        due.same("two", x.count(5), 2);
        x.hosts(true);
        due.same("fault 6", x.walk(0, 0), 6);
        due.same("three", x.count(5), 3);
        due.same("one by a walk", x.count(6), 1);
        due.same("two faults", x.count(7), 2);
    }

    private static void countByWalks() {
        due.sentence("count: by walks (6; faults, too)");
        PageRows x = pages(2);
        read(x, 0);
        due.same("one", x.count(6), 1);
        due.same("fault 3", x.walk(0x100, 2), 3);
        due.same("two", x.count(6), 2);
        due.same("fault 1", x.walk(-1, 0), 1);
        due.same("three", x.count(6), 3);
        due.same("write", x.walk(0, 1), 0);
        due.same("four", x.count(6), 4);
        due.same("none by entries", x.count(5), 0);
    }

    private static void countOfFaults() {
        due.sentence("count: faults (7)");
        PageRows x = Words.way(2, 0, Words.of(9, READ));
        x.table(257, Words.of(1, READ | Words.LARGE));
        x.table(258, Words.next(256));
        int[] places = {-1, 0x100, 0, 0x1000, 0x2000};
        int[] kinds = {0, 0, 1, 0, 0};
        for (int i = 0; i < places.length; i++) {
            x.walk(places[i], kinds[i]);
            due.same("behind fault " + (i + 1), x.count(7), i + 1);
        }
        x.hosts(true);
        x.walk(0, 0);
        due.same("behind fault 6", x.count(7), 6);
        x.hosts(false);
        x.walk(0, 0);
        due.same("behind a walk without fault", x.count(7), 6);
        x.plain(-1, 0);
        x.stale(1);
        due.illegal("walk(0, 6)", () -> x.walk(0, 6));
        due.same("behind plain(), stale() and a refused walk", x.count(7), 6);
        x.walk(0, 1);
        due.same("behind one by the entry", x.count(7), 7);
    }

    private static void countOfWantOfRoom() {
        due.sentence("count: entries that went for want of room (8)");
        PageRows x = pages(2);
        read(x, 0, 1);
        due.same("full", x.count(8), 0);
        x.walk(0, 1);
        due.same("one of the same goes before", x.count(8), 0);
        read(x, 2);
        due.same("one more", x.count(8), 1);
        x.walk(0x300, 2);
        due.same("with a fault", x.count(8), 1);
        x.flush(0, 0);
        due.same("flushed ones did not go for want of room", x.count(8), 1);
        read(x, 0, 1, 16);
        due.same("full once more, and one more", x.count(8), 2);
    }

    private static void countOfAnotherWhat() {
        due.sentence("count: NONE for another what");
        PageRows x = pages(2);
        read(x, 0);
        String before = Shown.of(x);
        int[] whats = {MIN, -2, -1, 9, 10, MAX};
        for (int what : whats) {
            due.same("count(" + what + ")", x.count(what), PageRows.NONE);
        }
        due.same("the object", Shown.of(x), before);
    }
}
