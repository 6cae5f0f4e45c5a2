/** Refused calls: each must throw, and leave what later calls show as it was. */
final class Refusals {
    interface OnObject {
        void run(PageRows x);
    }

    private final Due due;

    Refusals(Due due) {
        this.due = due;
    }

    void outOfBounds(String call, OnObject made) {
        for (PageRows x : objects()) {
            String before = Shown.of(x);
            due.outOfBounds(call, () -> made.run(x));
            due.same("behind " + call + " the object", Shown.of(x), before);
        }
    }

    void illegal(String call, OnObject made) {
        for (PageRows x : objects()) {
            String before = Shown.of(x);
            due.illegal(call, () -> made.run(x));
            due.same("behind " + call + " the object", Shown.of(x), before);
        }
    }

    private static PageRows[] objects() {
        return new PageRows[] {new PageRows(4, 32), Used.withoutFault(), Used.withFault()};
    }
}
