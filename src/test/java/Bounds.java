import java.lang.reflect.InvocationTargetException;
import java.lang.reflect.Method;
import java.util.Map;
import java.util.TreeMap;
import java.util.function.Supplier;
import java.util.function.ToLongFunction;

/** What the tests of the document's boundary sentences share: they are the methods that have a {@link Says}. */
abstract class Bounds {
    static final int BAD = -1, STATE = -2, FULL = -3, NONE = -4;
    static final int LEAST = Integer.MIN_VALUE, MOST = Integer.MAX_VALUE;
    private static final Check check = new Check();
    private static String running = "";

    /** Runs the tests of a class by their names. */
    static void run(Class<?> tests) throws IllegalAccessException, InvocationTargetException {
        Map<String, Method> byName = new TreeMap<>();
        for (Method m : tests.getDeclaredMethods()) {
            if (m.isAnnotationPresent(Says.class)) {
                byName.put(m.getName(), m);
            }
        }
        for (Method m : byName.values()) {
            running = m.getName();
            m.invoke(null);
        }
        System.out.print(byName.size() + " sentences, ");
        check.finish();
    }

    static void due(String call, long got, long want) {
        check.due(running + ": " + call, got, want);
    }

    static void holds(String what, boolean is) {
        check.holds(running + ": " + what, is);
    }

    /** The call is refused, and what later calls answer is what they would have answered without it. */
    static void refused(Supplier<AimTunnel> made, String call, long answer, ToLongFunction<AimTunnel> asked) {
        due(call, asked.applyAsLong(made.get()), answer);
        unchanged(made, call, asked);
    }

    static void unchanged(Supplier<AimTunnel> made, String call, ToLongFunction<AimTunnel> asked) {
        String difference = Portrait.difference(made, x -> asked.applyAsLong(x));
        holds(call + " changes nothing, but " + difference, difference == null);
    }

    /** As refused(), for each of some numbers. */
    static void eachRefused(Supplier<AimTunnel> made, String call, long answer, IntCall asked, int... numbers) {
        for (int v : numbers) {
            refused(made, call + " of " + v, answer, x -> asked.of(x, v));
        }
    }

    interface IntCall {
        long of(AimTunnel x, int v);
    }

    /** Numbers that name no cell, next to such as do. */
    static final int[] NO_CELLS = {LEAST, -10, -1, 8, 9, 18, 19, 28, 38, 48, 58, 68, 78, 79, 80, 87, 88, 100, MOST};

    /** Of all there is something: one who is up, one without faith, words, rocks, things seen, an image, sheets, a tape. */
    static AimTunnel rich() {
        AimTunnel x = Check.told("plain 5 5;plain 0 66;lover 33 2;guard 70 0;rock 10;rock 20;rock 44;word 3 1 52;word 4 1 0;faith 3 1;");
        x.dig(1);
        x.see(1, 0, 0);
        x.keep(1);
        x.stone(55, true);
        x.tell(5, 1, 7);
        x.alter(1, 2, 41);
        x.see(1, 1, 0);
        x.dig(1);
        x.alter(1, 3, 1);
        x.sheet(0, 0, 6);
        x.sheet(1, 1, 4);
        x.sheet(2, 2, 2);
        layAll(x, 0, 1, 70, 2, 3, 1, 7);
        layAll(x, 1, 2, 44, 1, 17);
        layAll(x, 2, 1, 25);
        x.read(1, 0, 0, 1);
        x.feed('?');
        x.text();
        Check.feed(x, "cynic 1 2;rock 3");
        return x;
    }

    static void layAll(AimTunnel x, int k, int... cells) {
        for (int i = 0; i < cells.length; i++) {
            x.lay(k, i, cells[i]);
        }
    }

    /** An object whose foot is there. */
    static AimTunnel atFoot(String text, int foot) {
        AimTunnel x = Check.told(text);
        for (int left = foot; left > 0; left -= 20) {
            x.dig(Math.min(left, 20));
        }
        return x;
    }
}
