import java.lang.reflect.InvocationTargetException;
import java.lang.reflect.Method;
import java.util.ArrayList;
import java.util.Arrays;
import java.util.Comparator;
import java.util.List;
import java.util.Random;

/** Any calls with any numbers: none throws, refused ones change nothing but their count, and all answer the same again. */
public final class AnyCallsTest {
    private static final Random RANDOM = new Random(7);
    private static final int[] EDGES = {Integer.MIN_VALUE, Integer.MIN_VALUE + 1, -1000001, -100, -2, -1, 0, 1, 2, 3, 4, 5, 6, 7, 8, 9,
        10, 11, 12, 19, 20, 21, 30, 31, 39, 40, 41, 59, 60, 61, 99, 100, 101, 120, 200, 201, 300, 301, 400, 600, 601, 999, 1000, 1001,
        9999, 10000, 1000000, 1000001, Integer.MAX_VALUE - 1, Integer.MAX_VALUE};
    private static final String[] SCENES = {"lanes 4;car 0 at 9 pace 3 kind 1;car 1 at 30 pace 5 kind 2;car 3 at 200 pace 9 kind 0;old;",
        "car 0 at 1 pace 1 kind 3;car 0 at 40 pace 9 kind 0;hump;gap 20;", "", "lanes 2;sight 200;waits 60;", "car 0 at 5", "?"};
    private static final String[] LAWS = {"stop 50 if near 20 or ahead;stop 20 if not in;", "stop 99 if ((((old))));stop 1 if beside and passed;",
        "", "stop 5 if", "stop 100 if lane 0;"};

    public static void main(String[] args) throws IllegalAccessException {
        List<Method> calls = new ArrayList<>();
        for (Method m : FootOut.class.getDeclaredMethods()) {
            if (java.lang.reflect.Modifier.isPublic(m.getModifiers())) {
                calls.add(m);
            }
        }
        calls.sort(Comparator.comparing(Method::getName));
        for (int i = 0; i < 120; i++) {
            oneLife(calls);
        }
        Check.end();
    }

    private static void oneLife(List<Method> calls) throws IllegalAccessException {
        FootOut x = new FootOut();
        FootOut y = new FootOut();
        for (int i = 0; i < 300; i++) {
            if (RANDOM.nextInt(25) == 0) {
                int what = RANDOM.nextInt(2);
                String text = what == 0 ? SCENES[RANDOM.nextInt(SCENES.length)] : LAWS[RANDOM.nextInt(LAWS.length)];
                Check.due(text, Check.read(x, what, text), Check.read(y, what, text));
            }
            Method m = calls.get(RANDOM.nextInt(calls.size()));
            Object[] with = numbersFor(m);
            String name = m.getName() + Arrays.toString(with);
            long[] before = state(x);
            int refused = refusals(x);
            long got = answer(m, x, with, name);
            Check.due("again " + name, answer(m, y, with, name), got);
            if (refusals(x) > refused) {
                Check.due("refused once: " + name, refusals(x), refused + 1);
                boolean text = got <= -31 && got >= -35;
                Check.isTrue("a code: " + name + " " + got, got == -2 || got == -3 || got == -5 || got == -6 || got == -7 || text
                        || got == -1000 || got == -1000000 || got == -100);
                if (!text) {
                    Check.isTrue("changed by " + name, Arrays.equals(before, state(x)));
                }
            }
        }
    }

    private static Object[] numbersFor(Method m) {
        Class<?>[] types = m.getParameterTypes();
        Object[] with = new Object[types.length];
        for (int i = 0; i < types.length; i++) {
            int small = RANDOM.nextInt(3) == 0 ? EDGES[RANDOM.nextInt(EDGES.length)] : RANDOM.nextInt(RANDOM.nextInt(2) == 0 ? 5 : 50);
            if (types[i] == boolean.class) {
                with[i] = RANDOM.nextBoolean();
            } else if (types[i] == long.class) {
                with[i] = RANDOM.nextInt(3) == 0 ? RANDOM.nextLong() : (long) small;
            } else {
                with[i] = RANDOM.nextInt(30) == 0 ? RANDOM.nextInt() : small;
            }
        }
        return with;
    }

    private static long answer(Method m, FootOut x, Object[] with, String name) throws IllegalAccessException {
        try {
            return ((Number) m.invoke(x, with)).longValue();
        } catch (InvocationTargetException e) {
            Check.isTrue(name + " threw " + e.getCause(), false);
            return 0;
        }
    }

    private static int refusals(FootOut x) {
        int sum = 0;
        for (int what = 0; what < 6; what++) {
            sum += x.status(what);
        }
        return sum;
    }

    /** All that can be asked for without being refused. */
    private static long[] state(FootOut x) {
        List<Long> all = new ArrayList<>();
        for (int what = 0; what < 11; what++) {
            all.add((long) x.count(what));
        }
        all.add((long) x.fault(0));
        all.add((long) x.fault(1));
        for (int c = 0; c < x.count(1); c++) {
            for (int what = 0; what < 4; what++) {
                all.add((long) x.car(c, what));
            }
            all.add((long) x.chance(c));
        }
        for (int p = 0; p < x.count(8); p++) {
            for (int what = 0; what < 6; what++) {
                all.add((long) x.at(p, what));
            }
        }
        all.add((long) x.spent(200, -1));
        all.add((long) x.spent(200, 20));
        for (int i = 0; i < 25; i++) {
            all.add((long) x.rests(i / 5, i % 5, 0));
        }
        return all.stream().mapToLong(v -> v).toArray();
    }
}
