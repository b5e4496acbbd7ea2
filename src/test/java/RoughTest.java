import java.lang.reflect.InvocationTargetException;
import java.lang.reflect.Method;
import java.lang.reflect.Modifier;
import java.util.Arrays;
import java.util.Comparator;
import java.util.NoSuchElementException;
import java.util.Random;

/** Any arguments in any state: nothing but a NoSuchElementException of of, sum and row ever reaches the caller. */
public final class RoughTest {
    private static final int[] EDGES = {Integer.MIN_VALUE, Integer.MIN_VALUE + 1, -60001, -2001, -2, -1, 0, 1, 2, 3, 4, 5, 6, 7, 8, 9, 10,
        11, 12, 19, 20, 59, 60, 61, 98, 99, 100, 101, 200, 201, 300, 999, 1000, 2000, 5000, 20000, 60000, 60001, 100000, Integer.MAX_VALUE - 1, Integer.MAX_VALUE};
    private static final String SIGNS = "skplwcoftrhnyav0123456789+-*<>=&|!():;.bgX";

    public static void main(String[] args) throws IllegalAccessException {
        Method[] methods = Arrays.stream(RaceByLaps.class.getDeclaredMethods()).filter(m -> Modifier.isPublic(m.getModifiers()))
            .sorted(Comparator.comparing(Method::getName)).toArray(Method[]::new);
        for (int seed = 0; seed < 2500; seed++) run(methods, seed);
        Due.close();
    }

    private static void run(Method[] methods, int seed) throws IllegalAccessException {
        Random random = new Random(seed);
        RaceByLaps x = new RaceByLaps();
        if (seed % 4 != 0) ready(x, random);
        for (int call = 0; call < 400; call++) {
            Method m = methods[random.nextInt(methods.length)];
            if (m.getName().equals("track") && random.nextInt(10) != 0) continue;
            if (m.getName().equals("best") && random.nextInt(5) != 0) continue;
            Object[] told = new Object[m.getParameterCount()];
            for (int i = 0; i < told.length; i++) {
                told[i] = m.getParameterTypes()[i] == boolean.class ? (Object) random.nextBoolean() : (Object) number(random, m.getName());
            }
            try {
                m.invoke(x, told);
            } catch (InvocationTargetException e) {
                boolean may = m.getExceptionTypes().length > 0 && e.getCause().getClass() == NoSuchElementException.class;
                if (!may) Due.fail("seed " + seed + ": " + m.getName() + Arrays.toString(told) + " throws " + e.getCause());
            }
        }
    }

    private static int number(Random random, String name) {
        if (name.equals("sign")) {
            int v = 0;
            for (int i = 0; i < 4; i++) v = v << 8 | SIGNS.charAt(random.nextInt(SIGNS.length()));
            return v;
        }
        return random.nextInt(3) == 0 ? EDGES[random.nextInt(EDGES.length)] : random.nextInt(random.nextBoolean() ? 3 : 12);
    }

    private static void ready(RaceByLaps x, Random random) {
        x.track(2 + random.nextInt(4), 1 + random.nextInt(12));
        for (int k = 0; k < 6; k++) {
            x.car(random.nextInt(4001) - 2000, 200, 1 + random.nextInt(9), k % 4, k % 2, random.nextInt(201));
            for (int set = random.nextInt(4); set > 0; set--) x.tyre(k, random.nextInt(4), random.nextInt(101));
        }
    }
}
