/** Counts the answers that are as due, and prints those that are not. */
final class Due {
    interface Call {
        void run();
    }

    private int right;
    private int wrong;

    void same(String call, long got, long want) {
        if (got == want) {
            right++;
        } else {
            wrong++;
            System.out.println(call + " answered " + got + ", due is " + want);
        }
    }

    void outOfBounds(String call, Call made) {
        throwing(call, made, IndexOutOfBoundsException.class);
    }

    void illegal(String call, Call made) {
        throwing(call, made, IllegalArgumentException.class);
    }

    /** The class is asked exactly: what the machine throws is often a class below. */
    private void throwing(String call, Call made, Class<?> want) {
        Class<?> got = null;
        try {
            made.run();
        } catch (RuntimeException e) {
            got = e.getClass();
        }
        if (got == want) {
            right++;
        } else {
            wrong++;
            System.out.println(call + " threw " + got + ", due is " + want);
        }
    }

    void end() {
        System.out.println(right + " answers as due, " + wrong + " not");
        if (wrong != 0 || right == 0) {
            System.exit(1);
        }
    }
}
