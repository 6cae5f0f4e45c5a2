/** What the calls of an object show of it, as texts; the object is left as it was. */
final class Shown {
    private static final int[] WORDS = {0, 1, 15, 16, 17, 32, 256, 257, 272, 4080, 4094, 4095};
    private static final int[] HOSTS = {0, 1, 2, 16, 17, 254, 255};
    private static final String[] PARTS = {"to", "level", "L", "N", "kept", "context", "reads",
        "by entries", "by walks", "faults", "gone", "roots", "on", "hosts", "words", "entries"};

    private Shown() {
    }

    /** All parts together, to be asked whether nothing has changed. */
    static String of(PageRows x) {
        return String.join(", ", parts(x));
    }

    /** The names of the parts that are not as they were, one behind the other. */
    static String changed(String[] before, String[] after) {
        StringBuilder names = new StringBuilder();
        for (int i = 0; i < PARTS.length; i++) {
            if (!before[i].equals(after[i])) {
                names.append(names.length() == 0 ? "" : ", ").append(PARTS[i]);
            }
        }
        return names.toString();
    }

    static String[] parts(PageRows x) {
        String[] parts = new String[PARTS.length];
        parts[0] = "to " + x.to();
        parts[1] = "level " + x.level();
        for (int what = 0; what <= 8; what++) {
            parts[2 + what] = PARTS[2 + what] + " " + x.count(what);
        }
        parts[11] = roots(x);
        boolean on = x.hosts(false);
        x.hosts(on);
        parts[12] = on ? "hosts on" : "hosts off";
        parts[13] = hosts(x);
        parts[14] = words(x);
        parts[15] = "entries" + entries(x);
        return parts;
    }

    private static String roots(PageRows x) {
        StringBuilder text = new StringBuilder("roots");
        for (int c = 0; c < 4; c++) {
            int root = x.root(c, 0);
            x.root(c, root);
            text.append(' ').append(root);
        }
        return text.toString();
    }

    private static String hosts(PageRows x) {
        StringBuilder text = new StringBuilder("hosts");
        for (int frame : HOSTS) {
            int host = x.host(frame, 0);
            x.host(frame, host);
            text.append(' ').append(host);
        }
        return text.toString();
    }

    private static String words(PageRows x) {
        StringBuilder text = new StringBuilder("words");
        for (int at : WORDS) {
            text.append(' ').append(x.word(at));
        }
        return text.toString();
    }

    /** The kept entries alone, the one used last first. */
    static String entries(PageRows x) {
        StringBuilder text = new StringBuilder();
        int kept = x.count(2);
        for (int k = 0; k < kept; k++) {
            text.append(", entry");
            for (int what = 0; what <= 5; what++) {
                text.append(' ').append(x.kept(k, what));
            }
        }
        return text.toString();
    }
}
