import java.util.ArrayList;
import java.util.HashMap;
import java.util.Iterator;
import java.util.List;
import java.util.Map;

/** A second reading of the document, slow and by other means, to hold PageRows against. */
final class PlainModel {
    private static final int NONE = -1;

    /** An entry, or what a walk found. */
    private static final class Found {
        int context;
        int fault;
        int level = NONE;
        int to = NONE;
        int largeness;
        int bits;
        int frame;
        boolean[] rights = new boolean[4];
        boolean changed;
        final List<Integer> read = new ArrayList<>();
    }

    private final int levels;
    private final int room;
    private final Map<Integer, Long> memory = new HashMap<>();
    private final Map<Integer, Integer> hosts = new HashMap<>();
    private final int[] roots = {0, 1, 2, 3};
    private final int[] counts = new int[9];
    /** The one used last stands last. */
    private final List<Found> entries = new ArrayList<>();
    private boolean hostsOn;
    private int context;
    private int to = NONE;
    private int level = NONE;

    PlainModel(int levels, int entries) {
        this.levels = (int) (1 + Math.floorMod(levels - 1L, 4L));
        this.room = (int) (1 + Math.floorMod(entries - 1L, 32L));
    }

    private static void bound(boolean fine) {
        if (!fine) {
            throw new IndexOutOfBoundsException();
        }
    }

    private static void legal(boolean fine) {
        if (!fine) {
            throw new IllegalArgumentException();
        }
    }

    long table(int at, long v) {
        long before = word(at);
        memory.put(at, v);
        return before;
    }

    long word(int at) {
        bound(at >= 0 && at <= 4095);
        return memory.getOrDefault(at, 0L);
    }

    int context(int c) {
        bound(c >= 0 && c <= 3);
        int before = context;
        context = c;
        return before;
    }

    int root(int of, int frame) {
        bound(of >= 0 && of <= 3);
        legal(frame >= 0 && frame <= 255);
        int before = roots[of];
        roots[of] = frame;
        return before;
    }

    int host(int frame, int host) {
        bound(frame >= 0 && frame <= 255);
        legal(host >= -1 && host <= 65535);
        Integer before = host == NONE ? hosts.remove(frame) : hosts.put(frame, host);
        return before == null ? NONE : before;
    }

    boolean hosts(boolean on) {
        boolean before = hostsOn;
        hostsOn = on;
        return before;
    }

    private static boolean bit(long word, int bit) {
        return ((word >> bit) & 1) == 1;
    }

    private static int power(int exponent) {
        int result = 1;
        for (int i = 0; i < exponent; i++) {
            result *= 16;
        }
        return result;
    }

    private static boolean right(boolean[] rights, int kind) {
        return rights[kind >= 3 ? kind - 3 : kind] && (kind < 3 || rights[3]);
    }

    /** Where a page of a frame and a place comes to, or NONE. */
    private int page(int frame, int largeness, int place) {
        int number = frame + place / 256 % power(largeness);
        if (hostsOn) {
            if (!hosts.containsKey(number)) {
                return NONE;
            }
            number = hosts.get(number);
        }
        return number * 256 + place % 256;
    }

    private Found search(int place, int kind) {
        Found found = new Found();
        found.context = context;
        if (place < 0 || place >= 256 * power(levels)) {
            return fault(found, 1, 0);
        }
        int frame = roots[context];
        for (int at = 0; at < levels; at++) {
            int behind = levels - 1 - at;
            if (hostsOn && !hosts.containsKey(frame)) {
                return fault(found, 6, at);
            }
            int lies = hostsOn ? hosts.get(frame) : frame;
            if (lies > 255) {
                return fault(found, 5, at);
            }
            int where = lies * 16 + place / 256 / power(behind) % 16;
            long word = word(where);
            found.read.add(where);
            if (!bit(word, 0)) {
                return fault(found, 2, at);
            }
            frame = (int) ((word >>> 8) % (1L << 20));
            if (behind == 0 || bit(word, 5)) {
                return leaf(found, word, behind, place, kind);
            }
        }
        throw new IllegalStateException("a walk has an end");
    }

    private Found leaf(Found found, long word, int behind, int place, int kind) {
        int frame = (int) ((word >>> 8) % (1L << 20));
        for (int i = 0; i < 4; i++) {
            found.rights[i] = bit(word, i + 1);
        }
        int at = levels - 1 - behind;
        if (behind > 0 && frame % power(behind) != 0) {
            return fault(found, 4, at);
        }
        if (!right(found.rights, kind)) {
            return fault(found, 3, at);
        }
        found.largeness = behind;
        found.bits = place / 256 / power(behind);
        found.frame = frame;
        found.changed = bit(word, 7) || kind == 1 || kind == 4;
        found.to = page(frame, behind, place);
        return found.to == NONE ? fault(found, 6, levels) : found;
    }

    private static Found fault(Found found, int fault, int level) {
        found.fault = fault;
        found.level = level;
        found.to = NONE;
        return found;
    }

    private boolean standsFor(Found entry, int place) {
        return place >= 0 && place < 256 * power(levels) && entry.context == context
                && entry.bits == place / 256 / power(entry.largeness);
    }

    int walk(int place, int kind) {
        legal(kind >= 0 && kind <= 5);
        Found entry = null;
        for (Found each : entries) {
            if (standsFor(each, place)) {
                entry = each;
            }
        }
        if (entry != null && !right(entry.rights, kind)) {
            return byEntry(entry, 3, NONE);
        }
        if (entry == null || (kind == 1 || kind == 4) && !entry.changed) {
            return byTables(place, kind);
        }
        int reached = page(entry.frame, entry.largeness, place);
        return byEntry(entry, reached == NONE ? 6 : 0, reached);
    }

    private int byEntry(Found entry, int fault, int reached) {
        entries.remove(entry);
        entries.add(entry);
        counts[5]++;
        return told(fault, fault == 0 ? NONE : levels, reached);
    }

    private int byTables(int place, int kind) {
        Found found = search(place, kind);
        counts[6]++;
        counts[4] += found.read.size();
        if (found.fault == 0) {
            for (int i = 0; i < found.read.size(); i++) {
                boolean leaf = i == found.read.size() - 1;
                long marks = leaf && (kind == 1 || kind == 4) ? 64 + 128 : 64;
                memory.put(found.read.get(i), word(found.read.get(i)) | marks);
            }
            entries.removeIf(e -> e.context == context && e.largeness == found.largeness
                    && e.bits == found.bits);
            if (entries.size() == room) {
                entries.remove(0);
                counts[8]++;
            }
            entries.add(found);
        }
        return told(found.fault, found.level, found.to);
    }

    private int told(int fault, int faultLevel, int reached) {
        to = reached;
        level = faultLevel;
        if (fault != 0) {
            counts[7]++;
        }
        return fault;
    }

    int to() {
        return to;
    }

    int level() {
        return level;
    }

    int plain(int place, int kind) {
        legal(kind >= 0 && kind <= 5);
        Found found = search(place, kind);
        return found.fault == 0 ? found.to : -found.fault;
    }

    int flush(int what, int place) {
        legal(what >= 0 && what <= 2);
        int gone = 0;
        for (Iterator<Found> i = entries.iterator(); i.hasNext();) {
            Found entry = i.next();
            if (what == 0 || what == 1 && entry.context == context
                    || what == 2 && standsFor(entry, place)) {
                i.remove();
                gone++;
            }
        }
        return gone;
    }

    int kept(int k, int what) {
        bound(k >= 0 && k < entries.size() && what >= 0 && what <= 5);
        Found entry = entries.get(entries.size() - 1 - k);
        int rights = 0;
        for (int i = 3; i >= 0; i--) {
            rights = rights * 2 + (entry.rights[i] ? 1 : 0);
        }
        int[] parts = {entry.context, entry.largeness, entry.bits, entry.frame, rights,
            entry.changed ? 1 : 0};
        return parts[what];
    }

    int stale(int kind) {
        legal(kind >= 0 && kind <= 5);
        int number = 0;
        for (Found entry : entries) {
            if (entry.context != context) {
                continue;
            }
            int place = entry.bits * power(entry.largeness) * 256;
            int came = plain(place, kind);
            int tells = right(entry.rights, kind) ? page(entry.frame, entry.largeness, place) : -3;
            if (!(came < 0 && tells < 0) && came != tells) {
                number++;
            }
        }
        return number;
    }

    int count(int what) {
        switch (what) {
            case 0: return levels;
            case 1: return room;
            case 2: return entries.size();
            case 3: return context;
            default: return what >= 4 && what <= 8 ? counts[what] : NONE;
        }
    }
}
