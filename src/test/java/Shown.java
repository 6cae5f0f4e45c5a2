/** What the calls of an object show of it, as a text; the object is left as it was. */
final class Shown {
    private static final int[] WORDS = {0, 1, 15, 16, 17, 32, 256, 257, 272, 4080, 4094, 4095};
    private static final int[] HOSTS = {0, 1, 2, 16, 17, 254, 255};

    private Shown() {
    }

    static String of(PageRows x) {
        StringBuilder text = new StringBuilder();
        text.append("to ").append(x.to()).append(", level ").append(x.level()).append(", counts");
        for (int what = 0; what <= 8; what++) {
            text.append(' ').append(x.count(what));
        }
        text.append(", roots");
        for (int c = 0; c < 4; c++) {
            int root = x.root(c, 0);
            x.root(c, root);
            text.append(' ').append(root);
        }
        boolean on = x.hosts(false);
        x.hosts(on);
        text.append(on ? ", hosts on" : ", hosts off");
        for (int frame : HOSTS) {
            int host = x.host(frame, 0);
            x.host(frame, host);
            text.append(' ').append(host);
        }
        text.append(", words");
        for (int at : WORDS) {
            text.append(' ').append(x.word(at));
        }
        return text.append(entries(x)).toString();
    }

    /** The kept entries alone, the one used last first. */
    static String entries(PageRows x) {
        StringBuilder text = new StringBuilder();
        int kept = x.count(2);
        for (int k = 0; k < kept; k++) {
            text.append(", entry");
            for (int what = 0; what <= 5; what++) {
                text.append(' ').append(x.kept(k, what));
            }
        }
        return text.toString();
    }
}
