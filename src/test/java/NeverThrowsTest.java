import java.lang.reflect.InvocationTargetException;
import java.lang.reflect.Method;
import java.util.Random;

/** Every call with any arguments, in states near the limits, for longer than an object is promised to be used. */
public final class NeverThrowsTest {
    private static final int[] EDGES = {-1, 0, 1, 2, 3, 4, 9, 10, 11, 12, 19, 20, 21, 50, 59, 60, 99, 100, 101, 119, 150,
        200, 500, 1023, 1199, 1200, 9999, 10000, 0x7061792b, 0x73746f70, Integer.MAX_VALUE, Integer.MIN_VALUE};

    public static void main(String[] args) throws IllegalAccessException {
        Checks c = new Checks("NeverThrowsTest");
        for (int seed = 0; seed < 20; seed++) {
            run(new Random(seed), c);
        }
        c.finish();
    }

    private static void run(Random random, Checks c) throws IllegalAccessException {
        VillagePay x = new VillagePay();
        Method[] methods = VillagePay.class.getMethods();
        for (int i = 0; i < 8000; i++) {
            Method m = methods[random.nextInt(methods.length)];
            boolean ours = m.getDeclaringClass() == VillagePay.class;
            // Too many ways back and days ahead would keep the object near its beginning or at its end.
            boolean seldom = m.getName().equals("again") || m.getName().equals("days");
            if (!ours || seldom && random.nextInt(8) != 0) {
                continue;
            }
            Object[] a = new Object[m.getParameterCount()];
            for (int j = 0; j < a.length; j++) {
                a[j] = m.getParameterTypes()[j] == boolean.class ? (Object) random.nextBoolean() : (Object) some(random);
            }
            boolean threw = false;
            try {
                m.invoke(x, a);
            } catch (InvocationTargetException e) {
                threw = true;
                e.getCause().printStackTrace(System.out);
            }
            c.no(m.getName() + " throws", threw);
        }
    }

    private static int some(Random random) {
        int kind = random.nextInt(10);
        return kind == 0 ? random.nextInt() : kind < 3 ? EDGES[random.nextInt(EDGES.length)] : random.nextInt(kind < 7 ? 12 : 210);
    }
}
