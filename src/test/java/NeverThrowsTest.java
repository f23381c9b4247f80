import java.lang.reflect.Method;
import java.util.Random;

/** No call throws, whatever it is given and however it stands; and the same calls answer alike. */
public final class NeverThrowsTest {
    private static final int[] EDGES = {Integer.MIN_VALUE, Integer.MIN_VALUE + 1, -1000000, -11, -10, -5, -4, -3,
        -2, -1, 0, 1, 2, 3, 4, 5, 6, 7, 8, 9, 10, 11, 12, 20, 21, 60, 61, 99, 100, 127, 128, 149, 150, 151,
        999999, 1000000, Integer.MAX_VALUE - 1, Integer.MAX_VALUE};

    public static void main(String[] args) throws Exception {
        Check check = new Check("NeverThrowsTest");
        for (int seed = 0; seed < 200; seed++) {
            check.due("the same run again, seed " + seed, run(check, seed), run(check, seed));
        }
        check.end();
    }

    private static long run(Check check, int seed) throws Exception {
        Random random = new Random(seed);
        PostRounders x = new PostRounders();
        long sum = 0;
        for (int call = 0; call < 512; call++) {
            Method method = someMethod(random);
            Object[] given = new Object[method.getParameterCount()];
            for (int k = 0; k < given.length; k++) {
                given[k] = random.nextInt(4) == 0 ? EDGES[random.nextInt(EDGES.length)] : random.nextInt(10);
            }
            try {
                sum = 31 * sum + ((Number) method.invoke(x, given)).longValue();
            } catch (java.lang.reflect.InvocationTargetException e) {
                check.that(method.getName() + java.util.Arrays.toString(given) + " threw " + e.getCause(), false);
            }
        }
        return 31 * sum + x.digest();
    }

    private static Method someMethod(Random random) {
        Method[] methods = PostRounders.class.getDeclaredMethods();
        java.util.Arrays.sort(methods, java.util.Comparator.comparing(Method::getName));
        while (true) {
            Method method = methods[random.nextInt(methods.length)];
            if (java.lang.reflect.Modifier.isPublic(method.getModifiers())) {
                return method;
            }
        }
    }
}
