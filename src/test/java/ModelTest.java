import java.lang.reflect.InvocationTargetException;
import java.lang.reflect.Method;
import java.util.HashMap;
import java.util.Map;
import java.util.Random;

/** Long runs of mixed calls: PageRows and PlainModel must answer alike. The seeds are fixed. */
public final class ModelTest {
    private static final int RUNS = 3000;
    private static final int CALLS = 512;
    private static final int[] EDGES = {Integer.MIN_VALUE, -2, -1, 0, 1, 3, 4, 6, 15, 16, 255, 256,
        4095, 4096, 65535, 65536, 1 << 20, (1 << 24) - 1, 1 << 24, Integer.MAX_VALUE};
    private static final Due due = new Due();
    private static final Map<String, Method> METHODS = new HashMap<>();
    private static final String[] NAMES = {"table", "word", "context", "root", "host", "hosts",
        "walk", "to", "level", "plain", "flush", "kept", "stale", "count"};
    /** How often each call of NAMES comes. */
    private static final int[] WEIGHTS = {14, 4, 3, 2, 4, 1, 40, 4, 6, 6, 2, 8, 3, 5};

    /** What the answers showed, so that a run of nothing but faults is not taken for a test. */
    private static final int[] faultsSeen = new int[7];
    private static int byEntries;
    private static int crowdedOut;
    private static int staleSeen;

    public static void main(String[] args) {
        for (int run = 0; run < RUNS; run++) {
            compare(run);
        }
        for (int fault = 0; fault <= 6; fault++) {
            due.same("fault " + fault + " came often", faultsSeen[fault] > 500 ? 1 : 0, 1);
        }
        due.same("entries answered often", byEntries > 10000 ? 1 : 0, 1);
        due.same("entries went for want of room often", crowdedOut > 1000 ? 1 : 0, 1);
        due.same("entries were stale often", staleSeen > 500 ? 1 : 0, 1);
        due.end();
    }

    private static void compare(int run) {
        Random random = new Random(run);
        int levels = random.nextInt(10) == 0 ? random.nextInt() : 1 + random.nextInt(4);
        int entries = random.nextInt(3) == 0 ? random.nextInt() : 1 + random.nextInt(5);
        PageRows x = new PageRows(levels, entries);
        PlainModel model = new PlainModel(levels, entries);
        for (int call = 0; call < CALLS; call++) {
            boolean laying = call < 60;
            int which = laying ? 0 : choice(random);
            int a = argument(random, which, model);
            int b = second(random, which);
            long v = tableWord(random, model.count(0));
            String name = "run " + run + ", call " + call + ": " + NAMES[which] + "(" + a + ", "
                    + (which == 0 ? v : b) + ")";
            String got = answer(x, which, a, b, v);
            String want = answer(model, which, a, b, v);
            if (!got.equals(want)) {
                System.out.println(name + " answered " + got + ", the model " + want);
                due.same(name, 0, 1);
                return;
            }
            note(which, got);
        }
        due.same("run " + run, 1, 1);
        byEntries += model.count(5);
        crowdedOut += model.count(8);
    }

    private static void note(int which, String got) {
        if (which == 6 && got.length() == 1) {
            faultsSeen[got.charAt(0) - '0']++;
        }
        if (which == 12 && got.length() == 1 && !got.equals("0")) {
            staleSeen++;
        }
    }

    private static int choice(Random random) {
        int sum = 0;
        for (int weight : WEIGHTS) {
            sum += weight;
        }
        int left = random.nextInt(sum);
        int which = 0;
        while (left >= WEIGHTS[which]) {
            left -= WEIGHTS[which];
            which++;
        }
        return which;
    }

    private static int argument(Random random, int which, PlainModel model) {
        if (random.nextInt(40) == 0) {
            return EDGES[random.nextInt(EDGES.length)];
        }
        switch (which) {
            case 0: case 1: return random.nextInt(8) * 16 + random.nextInt(3);
            case 2: case 3: return random.nextInt(random.nextInt(4) == 0 ? 4 : 2);
            case 4: return random.nextInt(random.nextInt(6) == 0 ? 256 : 20);
            case 5: return random.nextInt(3) == 0 ? 1 : 0;
            case 6: case 9: return place(random, model.count(0));
            case 10: return random.nextInt(3);
            case 11: return random.nextInt(Math.max(1, model.count(2)));
            case 12: return random.nextInt(6);
            default: return random.nextInt(9);
        }
    }

    private static int second(Random random, int which) {
        if (random.nextInt(60) == 0) {
            return EDGES[random.nextInt(EDGES.length)];
        }
        switch (which) {
            case 3: return random.nextInt(8);
            case 4: return random.nextInt(4) == 0 ? random.nextInt(65536) : random.nextInt(8);
            case 10: return place(random, 1 + random.nextInt(4));
            default: return random.nextInt(6);
        }
    }

    /** Few indices, so that places meet the same words and entries again. */
    private static int place(Random random, int levels) {
        int place = 0;
        for (int i = 0; i < levels; i++) {
            place = place * 16 + random.nextInt(3);
        }
        return place * 256 + random.nextInt(256);
    }

    private static long tableWord(Random random, int levels) {
        long bits = random.nextInt(12) == 0 ? 0 : 1;
        for (int bit = 1; bit <= 4; bit++) {
            bits |= random.nextInt(4) == 0 ? 0 : 1L << bit;
        }
        boolean large = levels > 1 && random.nextInt(4) == 0;
        bits |= large ? 32 : 0;
        bits |= random.nextInt(8) == 0 ? 64 : 0;
        bits |= random.nextInt(8) == 0 ? 128 : 0;
        long frame = random.nextInt(8);
        if (large) {
            frame = (long) random.nextInt(3) << 4 * random.nextInt(4);
        } else if (random.nextInt(12) == 0) {
            frame = random.nextInt(1 << 20);
        }
        long odd = random.nextInt(10) == 0 ? random.nextLong() << 28 : 0;
        return odd | frame << 8 | bits;
    }

    /** Both classes have the same methods, so a call is made by its name. */
    private static String answer(Object x, int which, int a, int b, long v) {
        Method method = methodOf(x.getClass(), NAMES[which]);
        Class<?>[] types = method.getParameterTypes();
        Object[] arguments = new Object[types.length];
        for (int i = 0; i < types.length; i++) {
            arguments[i] = types[i] == long.class ? (Object) v
                    : types[i] == boolean.class ? (Object) (a == 1) : i == 0 ? a : b;
        }
        try {
            return String.valueOf(method.invoke(x, arguments));
        } catch (InvocationTargetException e) {
            return e.getCause().getClass().getName();
        } catch (IllegalAccessException e) {
            throw new IllegalStateException(e);
        }
    }

    private static Method methodOf(Class<?> type, String name) {
        return METHODS.computeIfAbsent(type.getName() + "." + name, key -> {
            for (Method method : type.getDeclaredMethods()) {
                if (method.getName().equals(name)) {
                    return method;
                }
            }
            throw new IllegalStateException("no method " + key);
        });
    }
}
