/** Counts the answers that are as due, and prints those that are not. */
final class Due {
    interface Call {
        void run();
    }

    private int right;
    private int wrong;
    private String sentence = "";
    private int askedOfSentence = 1;
    private int sentences;

    /** Runs tests one by one; one that ends early is wrong, and the next ones are still run. */
    void each(Call... tests) {
        for (Call test : tests) {
            try {
                test.run();
            } catch (RuntimeException e) {
                note(false, "ended early: " + e);
            }
        }
        end();
    }

    /** From here on answers are told of this sentence; one that asks for nothing is wrong. */
    void sentence(String told) {
        endSentence();
        sentence = told;
        askedOfSentence = 0;
        sentences++;
    }

    private void endSentence() {
        if (askedOfSentence == 0) {
            askedOfSentence = 1;
            note(false, "nothing was asked");
        }
    }

    void same(String call, long got, long want) {
        note(got == want, call + " answered " + got + ", due is " + want);
    }

    void same(String call, String got, String want) {
        note(got.equals(want), call + " showed\n  " + got + ", due is\n  " + want);
    }

    void outOfBounds(String call, Call made) {
        throwing(call, made, IndexOutOfBoundsException.class);
    }

    void illegal(String call, Call made) {
        throwing(call, made, IllegalArgumentException.class);
    }

    /** The class is asked exactly: what the machine throws is often a class below. */
    private void throwing(String call, Call made, Class<?> want) {
        Class<?> got = null;
        try {
            made.run();
        } catch (RuntimeException e) {
            got = e.getClass();
        }
        note(got == want, call + " threw " + got + ", due is " + want);
    }

    private void note(boolean asDue, String what) {
        askedOfSentence++;
        if (asDue) {
            right++;
        } else {
            wrong++;
            System.out.println(sentence.isEmpty() ? what : "[" + sentence + "] " + what);
        }
    }

    void end() {
        endSentence();
        String of = sentences == 0 ? "" : " of " + sentences + " sentences";
        System.out.println(right + " answers" + of + " as due, " + wrong + " not");
        if (wrong != 0 || right == 0) {
            System.exit(1);
        }
    }
}
