import java.lang.management.ManagementFactory;
import java.lang.reflect.InvocationTargetException;
import java.lang.reflect.Method;
import java.lang.reflect.Modifier;
import java.util.Arrays;
import java.util.Comparator;
import java.util.Random;

/** No call throws, for any arguments in any state; and 512 of the dearest calls fit into the room. */
public final class AnyArgumentsTest {
    private static final int RUNS = 400, CALLS = 512;
    private static final int[] EDGES = {Integer.MIN_VALUE, Integer.MIN_VALUE + 1, -65536, -256, -101, -100, -15, -10, -9, -8,
        -7, -6, -5, -4, -3, -2, -1, 0, 0, 0, 1, 1, 2, 2, 3, 4, 5, 6, 7, 8, 9, 10, 11, 12, 13, 15, 16, 19, 20, 21, 24, 25,
        39, 40, 41, 98, 99, 100, 160, 198, 199, 200, 201, 255, 256, 999, 1000, 9999, 10000, 32768, 65536, 99999, 100000,
        Integer.MAX_VALUE - 1, Integer.MAX_VALUE};

    private static Method[] methods() {
        Method[] all = Arrays.stream(HollowedByFire.class.getDeclaredMethods())
            .filter(m -> Modifier.isPublic(m.getModifiers())).toArray(Method[]::new);
        Arrays.sort(all, Comparator.comparing(Method::getName));
        return all;
    }

    private static Object argument(Class<?> type, Random random) {
        int way = random.nextInt(10);
        int v = way == 0 ? random.nextInt() : way < 4 ? random.nextInt(12) - 1 : EDGES[random.nextInt(EDGES.length)];
        return type == long.class ? (Object) (way < 5 ? random.nextLong() : (long) v) : (Object) v;
    }

    private static void anyArguments(Check check) {
        Method[] methods = methods();
        Random random = new Random(20261118);
        for (int run = 0; run < RUNS; run++) {
            HollowedByFire x = new HollowedByFire();
            for (int call = 0; call < CALLS; call++) {
                Method m = methods[random.nextInt(methods.length)];
                Class<?>[] types = m.getParameterTypes();
                Object[] args = new Object[types.length];
                for (int i = 0; i < args.length; i++) {
                    args[i] = argument(types[i], random);
                }
                try {
                    m.invoke(x, args);
                } catch (InvocationTargetException | IllegalAccessException e) {
                    check.isTrue(m.getName() + Arrays.toString(args) + " threw " + e.getCause(), false);
                }
            }
            check.isTrue("run " + run, true);
        }
    }

    /** A state in which each call has as much to do as it can have. */
    private static HollowedByFire full() {
        HollowedByFire x = new HollowedByFire();
        Hands.sheet(x, 0, 99, 98, 97, 96, 95);
        for (int t = 0; t < 6; t++) {
            x.tree(99 - t, 9 - t, t % 2, 0);
        }
        for (int w = 0; w < 10; w++) {
            x.work(w % 3 == 0 ? 3 : 1, 9, w % 3 == 0 ? 1 : 9);
        }
        Hands.sheet(x, 1, 99, 99, 99, 99, 99, 99, 99, 99, 99);
        return x;
    }

    private static long bytes() {
        return ((com.sun.management.ThreadMXBean) ManagementFactory.getThreadMXBean())
            .getThreadAllocatedBytes(Thread.currentThread().getId());
    }

    private static long dearest(HollowedByFire x) {
        long all = x.hole() + x.which() + x.boring(5, 0) + x.worth(5, 1) + x.odds(10, 12, 5, 1) + x.stop(10, 9, 9, 5)
            + x.left(4, 24, 0) + x.old(1) + x.drawn(10, 4, 9, 1) + x.state(10, 2) + x.forest(1, 1, 200);
        return all;
    }

    private static void room(Check check) {
        HollowedByFire x = full();
        long sum = dearest(x);
        long ahead = bytes();
        for (int i = 0; i < CALLS; i++) {
            sum += x.hole();
        }
        // an object of two longs and its head take 32 bytes: so these are at most 150,000 of them
        long used = bytes() - ahead;
        check.isTrue("512 hole() took " + used + " bytes", used < 150000L * 32);
        ahead = bytes();
        for (int i = 0; i < CALLS; i++) {
            sum += dearest(x);
        }
        used = bytes() - ahead;
        check.isTrue("512 of all dear calls took " + used + " bytes", used < 300000L * 32);
        ahead = bytes();
        HollowedByFire y = new HollowedByFire();
        used = bytes() - ahead;
        check.isTrue("a new object took " + used + " bytes", used < 100000 && y.count(5) == 0);
        check.isTrue("the sum of all is a number", sum != HollowedByFire.NO);
    }

    public static void main(String[] args) {
        Check check = new Check("AnyArgumentsTest");
        anyArguments(check);
        room(check);
        check.end();
    }
}
