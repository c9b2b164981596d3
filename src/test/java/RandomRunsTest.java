import java.lang.reflect.Method;
import java.util.Arrays;
import java.util.List;
import java.util.Random;

/** Runs of 512 calls with mixed and wrong numbers, each answered by the program and by the plain words. */
public final class RandomRunsTest {
    private static final int RUNS = 400;
    private static final int CALLS = 512;
    private static final int MOST_PLAIN_THINGS = 6;

    /** Calls for which the plain words write out all rows. */
    private static final List<String> DEAR =
            List.of("told", "rowOut", "before", "places", "fair", "two", "same", "hand", "unlike");

    private static final String[] CALLED = {
        "order", "order", "pair", "pair", "pair", "pair", "pair", "pair", "pair", "pair", "round", "stack",
        "beside", "times", "held", "row", "dual", "part", "drop", "drop", "told", "told", "told", "told",
        "count", "below", "widest", "of", "of", "low", "rowOut", "before", "places", "fair", "two", "two",
        "invert", "bound", "bound", "uneven", "bent", "same", "lay", "lay", "lay", "lay", "lay", "lay",
        "clear", "hand", "hand", "unlike", "act", "act", "trace", "sheet", "cell", "cell", "cell", "cell",
        "pairs", "pairs", "forge", "forge", "forge"};

    private RandomRunsTest() {
    }

    public static void main(String[] args) throws ReflectiveOperationException {
        for (int run = 0; run < RUNS; run++) {
            oneRun(run);
        }
        Due.end();
    }

    private static void oneRun(int run) throws ReflectiveOperationException {
        Random random = new Random(run);
        HalfOrders x = new HalfOrders();
        PlainOrders y = new PlainOrders();
        for (int i = 0; i < CALLS; i++) {
            String name = CALLED[random.nextInt(CALLED.length)];
            Method ours = method(HalfOrders.class, name);
            Object[] numbers = numbersFor(name, ours.getParameterCount(), random, x);
            if (DEAR.contains(name) && isTooLarge(name, numbers, x)) {
                continue;
            }
            String call = "run " + run + ", call " + i + ": " + name + Arrays.toString(numbers);
            long got = ((Number) ours.invoke(x, numbers)).longValue();
            long want = ((Number) method(PlainOrders.class, name).invoke(y, numbers)).longValue();
            Due.due(call, got, want);
            Due.due(call + ", status()", x.status(), y.status());
            Due.due(call + ", count(1)", x.count(1), y.count(1));
            Due.due(call + ", round(1)", x.round(1), y.round(1));
            Due.due(call + ", trace(2)", x.trace(2), y.trace(2));
        }
    }

    private static Method method(Class<?> of, String name) {
        for (Method method : of.getDeclaredMethods()) {
            boolean hasNumbersAlone = Arrays.stream(method.getParameterTypes()).allMatch(type -> type == int.class);
            if (method.getName().equals(name) && hasNumbersAlone
                    && !java.lang.reflect.Modifier.isPrivate(method.getModifiers())) {
                return method;
            }
        }
        throw new IllegalStateException(name);
    }

    private static boolean isTooLarge(String name, Object[] numbers, HalfOrders x) {
        int order = name.equals("hand") || name.equals("unlike") ? x.count(2) : (Integer) numbers[0];
        return x.told(order, 1) > MOST_PLAIN_THINGS;
    }

    private static Object[] numbersFor(String name, int many, Random random, HalfOrders x) {
        Object[] numbers = new Object[many];
        int orders = x.count(0);
        for (int i = 0; i < many; i++) {
            numbers[i] = random.nextInt(12) - 1;
        }
        if (many > 0 && random.nextInt(8) != 0 && orders > 0) {
            numbers[0] = random.nextInt(orders);
        }
        int things = many > 0 ? Math.max(1, x.told((Integer) numbers[0], 1)) : 1;
        for (int i = 1; i < many; i++) {
            if (random.nextInt(10) != 0) {
                numbers[i] = random.nextInt(things);
            }
        }
        switch (name) {
            case "order": case "row": numbers[0] = random.nextInt(6) == 0 ? random.nextInt(14) - 2 : random.nextInt(6); break;
            case "stack": case "beside": case "times": case "same": numbers[1] = random.nextInt(orders + 2) - 1; break;
            case "part": numbers[1] = random.nextInt(9) == 0 ? random.nextInt() : random.nextInt(1 << things); break;
            case "told": numbers[1] = random.nextInt(15) - 1; break;
            case "of": numbers[2] = random.nextInt(4) - 1; break;
            case "low": numbers[1] = random.nextInt(20) - 1; break;
            case "rowOut": numbers[1] = random.nextInt(random.nextBoolean() ? 6 : 100) - 1; break;
            case "unlike": numbers[0] = random.nextInt(random.nextBoolean() ? 6 : 100) - 1; break;
            case "two": numbers[1] = random.nextInt(8) == 0 ? random.nextInt(4) - 1 : random.nextInt(2); break;
            case "bound": numbers[3] = random.nextInt(8) == 0 ? random.nextInt(4) - 1 : random.nextInt(2); break;
            case "lay": numbers[0] = random.nextInt(4) == 0 || x.count(2) < 0 ? numbers[0] : (Integer) x.count(2); break;
            case "act": numbers[1] = random.nextInt(6) - 1; numbers[2] = random.nextBoolean() ? random.nextInt() : 5; break;
            case "sheet": numbers[0] = random.nextInt(6) - 1; numbers[1] = random.nextInt(5) - 1; numbers[2] = random.nextInt(24) - 2; break;
            case "cell": numbers[0] = random.nextInt(6) - 1; numbers[1] = random.nextInt(14) - 1;
                numbers[2] = random.nextInt(5) == 0 ? random.nextInt(104) - 2 : random.nextInt(4); break;
            case "pairs": numbers[1] = random.nextInt(6) - 1; numbers[2] = random.nextInt(5) - 1; numbers[3] = random.nextInt(13) - 1; break;
            case "forge": numbers[0] = random.nextInt(9) - 1; numbers[1] = random.nextInt(random.nextBoolean() ? 10 : 220) - 4;
                numbers[2] = random.nextInt(random.nextBoolean() ? 10 : 206) - (random.nextBoolean() ? 0 : 103); break;
            case "count": case "hand": numbers[0] = random.nextInt(6) - 1; break;
            default: break;
        }
        return numbers;
    }
}
