/** Objects that have been in use, so that a call has something to change by mistake. */
final class Used {
    private Used() {
    }

    /** The latest walk had no fault; the entries are full, one has gone, one is stale. */
    static PageRows withoutFault() {
        PageRows x = new PageRows(1, 2);
        x.table(0, Words.of(9, Words.ALL_RIGHTS));
        x.table(1, Words.of(10, Words.ALL_RIGHTS));
        x.table(15, Words.of(11, Words.ALL_RIGHTS));
        x.walk(0, 0);
        x.walk(0x100, 1);
        x.walk(0xF00, 0);
        x.walk(0x1FF, 1);
        x.table(15, 0);
        return x;
    }

    /** The latest walk had a fault; hosts are on, and the context is not the first one. */
    static PageRows withFault() {
        PageRows x = new PageRows(2, 4);
        x.context(2);
        x.root(2, 16);
        x.hosts(true);
        x.host(16, 255);
        x.host(17, 1);
        x.host(254, 65535);
        x.table(4080, Words.next(17));
        x.table(16, Words.of(254, Words.ALL_RIGHTS));
        x.walk(0x12, 4);
        x.walk(0x112, 0);
        return x;
    }
}
