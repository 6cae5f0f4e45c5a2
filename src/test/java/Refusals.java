/** Refused calls: each must throw, and leave what later calls show as it was. */
final class Refusals {
    interface OnObject {
        void run(PageRows x);
    }

    private final Due due;

    Refusals(Due due) {
        this.due = due;
    }

    void outOfBounds(String call, OnObject made) {
        for (PageRows x : objects()) {
            String before = Shown.of(x);
            due.outOfBounds(call, () -> made.run(x));
            due.same("behind " + call + " the object", Shown.of(x), before);
        }
    }

    void illegal(String call, OnObject made) {
        for (PageRows x : objects()) {
            String before = Shown.of(x);
            due.illegal(call, () -> made.run(x));
            due.same("behind " + call + " the object", Shown.of(x), before);
        }
    }

    private static PageRows[] objects() {
        return new PageRows[] {new PageRows(4, 32), withoutFault(), withFault()};
    }

    /** The latest walk had no fault; the entries are full, one has gone, one is stale. */
    private static PageRows withoutFault() {
        PageRows x = new PageRows(1, 2);
        x.table(0, Words.of(9, Words.ALL_RIGHTS));
        x.table(1, Words.of(10, Words.ALL_RIGHTS));
        x.table(15, Words.of(11, Words.ALL_RIGHTS));
        x.walk(0, 0);
        x.walk(0x100, 1);
        x.walk(0xF00, 0);
        x.walk(0x1FF, 1);
        x.table(15, 0);
        return x;
    }

    /** The latest walk had a fault; hosts are on, and the context is not the first one. */
    private static PageRows withFault() {
        PageRows x = new PageRows(2, 4);
        x.context(2);
        x.root(2, 16);
        x.hosts(true);
        x.host(16, 255);
        x.host(17, 1);
        x.host(254, 65535);
        x.table(4080, Words.next(17));
        x.table(16, Words.of(254, Words.ALL_RIGHTS));
        x.walk(0x12, 4);
        x.walk(0x112, 0);
        return x;
    }
}
