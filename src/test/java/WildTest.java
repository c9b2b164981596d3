import java.lang.management.ManagementFactory;
import java.lang.reflect.InvocationTargetException;
import java.lang.reflect.Method;
import java.lang.reflect.Modifier;
import java.util.Arrays;
import java.util.Random;

/** Numbers from far outside: no call throws, none is done that must not be, and room stays small. */
public final class WildTest {
    private static final int[] WILD = {
        Integer.MIN_VALUE, Integer.MIN_VALUE + 1, -1000000, -101, -100, -33, -32, -11, -8, -4, -2, -1, 0, 1, 2, 3,
        4, 5, 6, 7, 8, 9, 10, 11, 12, 20, 21, 31, 32, 33, 63, 64, 100, 101, 1023, 1024, 65536, 3628799, 3628800,
        Integer.MAX_VALUE - 1, Integer.MAX_VALUE};

    /** 7.3 million fields and elements of some bytes each; an object for one run takes far less. */
    private static final long MOST_BYTES = 400_000;

    private WildTest() {
    }

    public static void main(String[] args) throws ReflectiveOperationException {
        for (int run = 0; run < 1500; run++) {
            wildRun(run);
        }
        roomStaysSmall();
        Due.end();
    }

    private static void wildRun(int run) throws ReflectiveOperationException {
        Random random = new Random(run);
        HalfOrders x = new HalfOrders();
        int calm = random.nextInt(4);
        for (int i = 0; i < 1 + run % 8; i++) {
            x.order(random.nextInt(11));
            for (int j = 0; j < 12; j++) {
                x.pair(i, random.nextInt(10), random.nextInt(10));
            }
        }
        Method[] all = HalfOrders.class.getDeclaredMethods();
        Arrays.sort(all, (one, other) -> one.getName().compareTo(other.getName()));
        // The ORDERS above took up to 104 calls, and each one here is two.
        for (int i = 0; i < 200; i++) {
            Method method = all[random.nextInt(all.length)];
            if (Modifier.isPublic(method.getModifiers()) && (!method.getName().equals("drop") || calm == 0)) {
                callOne(x, method, random, calm, run);
            }
        }
    }

    private static void callOne(HalfOrders x, Method method, Random random, int calm, int run)
            throws ReflectiveOperationException {
        Object[] numbers = new Object[method.getParameterCount()];
        for (int i = 0; i < numbers.length; i++) {
            numbers[i] = random.nextInt(4) < calm ? random.nextInt(8) : WILD[random.nextInt(WILD.length)];
        }
        String call = "run " + run + ": " + method.getName() + Arrays.toString(numbers);
        try {
            method.invoke(x, numbers);
            int status = x.status();
            Due.due(call + " status", status >= 0 && status <= 15 ? 1 : 0, 1);
        } catch (InvocationTargetException thrown) {
            Due.due(call + " threw " + thrown.getCause(), 1, 0);
        }
    }

    private static void roomStaysSmall() {
        com.sun.management.ThreadMXBean bean = (com.sun.management.ThreadMXBean) ManagementFactory.getThreadMXBean();
        long id = Thread.currentThread().getId();
        dearRun();
        long start = bean.getThreadAllocatedBytes(id);
        dearRun();
        long taken = bean.getThreadAllocatedBytes(id) - start;
        Due.due("bytes taken: " + taken, taken <= MOST_BYTES ? 1 : 0, 1);
    }

    private static void dearRun() {
        HalfOrders x = new HalfOrders();
        x.order(10);
        x.pair(0, 0, 1);
        for (int i = 0; i < 30; i++) {
            x.dual(0);
            x.two(1, 1, 5);
            x.of(0, 9, 0);
            x.fair(1);
            x.told(0, 8);
            x.told(1, 8);
            x.told(0, 10);
            x.same(0, 1, 9);
            x.places(0, 5);
            x.sheet(0, 0, 20);
            x.act(1, 3, 5);
            x.lay(1, 3);
            x.unlike(7);
            x.forge(1, 100, 0);
            x.forge(3, 2, 0);
            x.drop();
        }
    }
}
