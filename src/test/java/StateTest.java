/**
 * What each call changes of an object: the parts that the document names of it, and no other one.
 * Objects that are in use are taken, so that a call would be seen to spoil something.
 */
public final class StateTest {
    private static final int MIN = Integer.MIN_VALUE;
    private static final long ALL = Words.ALL_RIGHTS;
    private static final Due due = new Due();

    public static void main(String[] args) {
        due.each(
            StateTest::tableChangesItsWord,
            StateTest::wordChangesNothing,
            StateTest::contextChangesTheContext,
            StateTest::rootChangesARoot,
            StateTest::hostChangesAHost,
            StateTest::hostsChangesWhetherTheyAreOn,
            StateTest::walkByAnEntry,
            StateTest::walkByAnEntryWithAFault,
            StateTest::walkByTables,
            StateTest::walkByTablesWithAFault,
            StateTest::toAndLevelChangeNothing,
            StateTest::plainChangesNothing,
            StateTest::flushChangesTheEntries,
            StateTest::keptChangesNothing,
            StateTest::staleChangesNothing,
            StateTest::countChangesNothing,
            StateTest::objectsHaveAStateOfTheirOwn);
    }

    private static void changes(PageRows x, String call, Refusals.OnObject made, String want) {
        String[] before = Shown.parts(x);
        made.run(x);
        due.same("parts changed by " + call, Shown.changed(before, Shown.parts(x)), want);
    }

    /** On an object whose latest walk had no fault, and on one whose latest walk had one. */
    private static void changes(String call, Refusals.OnObject made, String want) {
        changes(Used.withoutFault(), call, made, want);
        changes(Used.withFault(), call, made, want);
    }

    private static void tableChangesItsWord() {
        due.sentence("table: A word of memory is another one");
        changes("table(17, 5)", x -> x.table(17, 5), "words");
        changes("table(4095, -1)", x -> x.table(4095, -1), "words");
        changes("table(2, 5)", x -> due.same("table(2, 5)", x.table(2, 5), 0), "");
        changes("table of the same word", x -> x.table(1, x.word(1)), "");
    }

    private static void wordChangesNothing() {
        due.sentence("word: A word of memory");
        changes("word(0)", x -> x.word(0), "");
        changes("word(1)", x -> x.word(1), "");
        changes("word(16)", x -> x.word(16), "");
        changes("word(4080)", x -> x.word(4080), "");
    }

    private static void contextChangesTheContext() {
        due.sentence("context: The context from now on");
        changes("context(1)", x -> x.context(1), "context");
        changes("context(3)", x -> x.context(3), "context");
        changes("context of now", x -> x.context(x.count(3)), "");
    }

    private static void rootChangesARoot() {
        due.sentence("root: A context's root");
        for (int c = 0; c < 4; c++) {
            int of = c;
            changes("root(" + of + ", 200)", x -> x.root(of, 200), "roots");
        }
        changes("root(1, 1)", x -> x.root(1, 1), "");
    }

    private static void hostChangesAHost() {
        due.sentence("host: A frame's host");
        changes("host(0, 5)", x -> x.host(0, 5), "hosts");
        changes("host(255, 65535)", x -> x.host(255, 65535), "hosts");
        changes("host(254, 0)", x -> x.host(254, 0), "hosts");
        changes("host(0, NONE)", x -> x.host(0, PageRows.NONE), "");
        changes(Used.withFault(), "host(17, NONE)", x -> x.host(17, PageRows.NONE), "hosts");
    }

    private static void hostsChangesWhetherTheyAreOn() {
        due.sentence("hosts: Hosts are on or off");
        changes(Used.withoutFault(), "hosts(true)", x -> x.hosts(true), "on");
        changes(Used.withoutFault(), "hosts(false)", x -> x.hosts(false), "");
        changes(Used.withFault(), "hosts(true)", x -> x.hosts(true), "");
        changes(Used.withFault(), "hosts(false)", x -> x.hosts(false), "on");
    }

    private static void walkByAnEntry() {
        due.sentence("walk: Translates a place, by a kept entry");
        changes(Used.withoutFault(), "the latest walk again", x -> x.walk(0x1FF, 1), "by entries");
        changes(Used.withoutFault(), "another place", x -> x.walk(0x100, 0), "to, by entries");
        changes(Used.withoutFault(), "another entry", x -> x.walk(0xF00, 0),
                "to, by entries, entries");
        changes(Used.withFault(), "a write", x -> x.walk(0x12, 4), "to, level, by entries");
    }

    private static void walkByAnEntryWithAFault() {
        due.sentence("walk: the fault, by a kept entry");
        PageRows right = Words.way(1, 0, Words.of(9, Words.PRESENT | Words.READ));
        right.table(257, Words.of(10, ALL));
        right.walk(0, 0);
        right.walk(0x100, 0);
        changes(right, "fault 3", x -> x.walk(0, 1), "to, level, by entries, faults, entries");
        changes(right, "fault 3 again", x -> x.walk(0, 2), "by entries, faults");
        PageRows host = Used.withFault();
        host.host(254, PageRows.NONE);
        changes(host, "fault 6", x -> x.walk(0x12, 1), "level, by entries, faults");
        changes(host, "fault 6 again", x -> x.walk(0x12, 1), "by entries, faults");
    }

    private static void walkByTables() {
        due.sentence("walk: Translates a place, by a walk");
        changes(Used.withoutFault(), "a walk without room", x -> x.walk(0, 1),
                "to, reads, by walks, gone, words, entries");
        PageRows room = Used.withFault();
        room.table(17, Words.of(254, ALL));
        changes(room, "a walk with room", x -> x.walk(0x112, 0),
                "to, level, kept, reads, by walks, words, entries");
        PageRows write = Words.way(1, 0, Words.of(9, ALL));
        write.walk(0, 0);
        changes(write, "a write by an entry not CHANGED", x -> x.walk(0, 1),
                "reads, by walks, words, entries");
        PageRows marked = Words.way(1, 0, Words.of(9, ALL | Words.SEEN | Words.CHANGED));
        changes(marked, "a walk of words with marks", x -> x.walk(0, 1),
                "to, kept, reads, by walks, entries");
    }

    private static void walkByTablesWithAFault() {
        due.sentence("walk: the fault, by a walk");
        changes(Used.withoutFault(), "fault 1", x -> x.walk(-1, 0),
                "to, level, by walks, faults");
        changes(Used.withoutFault(), "fault 2", x -> x.walk(0x200, 0),
                "to, level, reads, by walks, faults");
        changes(Used.withoutFault(), "fault 2, a write by an entry not CHANGED",
                x -> x.walk(0xF00, 1), "to, level, reads, by walks, faults");
        changes(Used.withFault(), "fault 1", x -> x.walk(MIN, 0), "level, by walks, faults");
        changes(Used.withFault(), "fault 2 again", x -> x.walk(0x112, 0),
                "reads, by walks, faults");
        PageRows host = Used.withFault();
        host.table(17, Words.of(200, ALL));
        changes(host, "fault 6 behind the leaf", x -> x.walk(0x112, 1),
                "level, reads, by walks, faults");
    }

    private static void toAndLevelChangeNothing() {
        due.sentence("to: What the latest walk() came to; level: At which level its fault was");
        changes("to()", PageRows::to, "");
        changes("level()", PageRows::level, "");
    }

    private static void plainChangesNothing() {
        due.sentence("plain: nothing is kept, used or marked, no reads are counted");
        int[] places = {0, 0x12, 0x112, 0x1FF, 0xF00, 0x10000, -1, MIN};
        for (int place : places) {
            changes("plain(" + place + ", 0)", x -> x.plain(place, 0), "");
            changes("plain(" + place + ", 4)", x -> x.plain(place, 4), "");
        }
    }

    private static void flushChangesTheEntries() {
        due.sentence("flush: Forgets kept entries");
        changes("flush(0, 0)", x -> x.flush(0, 0), "kept, entries");
        changes("flush(1, 0)", x -> x.flush(1, 0), "kept, entries");
        changes(Used.withoutFault(), "flush(2, 0xFFF)", x -> x.flush(2, 0xFFF), "kept, entries");
        changes(Used.withFault(), "flush(2, 0xFF)", x -> x.flush(2, 0xFF), "kept, entries");
        changes("flush(2, 0x200), of none", x -> x.flush(2, 0x200), "");
        changes("flush(2, -1), of none", x -> x.flush(2, -1), "");
    }

    private static void keptChangesNothing() {
        due.sentence("kept: Of the k-th kept entry");
        for (int what = 0; what <= 5; what++) {
            int part = what;
            changes("kept(0, " + part + ")", x -> x.kept(0, part), "");
            changes(Used.withoutFault(), "kept(1, " + part + ")", x -> x.kept(1, part), "");
        }
    }

    private static void staleChangesNothing() {
        due.sentence("stale: Of how many kept entries of the context it is so");
        due.same("stale(0)", Used.withoutFault().stale(0), 1);
        for (int kind = 0; kind <= 5; kind++) {
            int of = kind;
            changes("stale(" + of + ")", x -> x.stale(of), "");
        }
    }

    private static void countChangesNothing() {
        due.sentence("count: L, N, entries kept, the context, and the counts");
        for (int what = -1; what <= 9; what++) {
            int of = what;
            changes("count(" + of + ")", x -> x.count(of), "");
        }
    }

    private static void objectsHaveAStateOfTheirOwn() {
        due.sentence("A new object: other ones are left as they were");
        PageRows first = Used.withFault();
        String[] before = Shown.parts(first);
        PageRows second = Used.withoutFault();
        String[] made = Shown.parts(second);
        due.same("parts changed by another object", Shown.changed(before, Shown.parts(first)), "");
        first.context(1);
        first.hosts(false);
        first.host(16, 3);
        first.table(16, Words.of(3, ALL));
        first.table(48, Words.of(70, ALL));
        first.walk(5, 1);
        first.walk(-1, 0);
        due.same("parts changed by the first", Shown.changed(made, Shown.parts(second)), "");
        due.same("a walk of the second", second.walk(0x101, 0), 0);
        due.same("by its entry", second.to(), 10 * 256 + 1);
        due.same("a walk of the first", first.walk(5, 1), 0);
        due.same("by its entry", first.to(), 70 * 256 + 5);
    }
}
