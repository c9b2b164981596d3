import java.lang.reflect.Method;
import java.util.Arrays;
import java.util.List;
import java.util.Random;

/** Runs of 512 calls with mixed and wrong numbers, each answered by the program and by the plain words. */
public final class RandomRunsTest {
    private static final int RUNS = 1200;
    private static final int CALLS = 512;
    private static final int MOST_PLAIN_THINGS = 6;

    /** Calls for which the plain words write out all rows. */
    private static final List<String> DEAR =
            List.of("told", "rowOut", "before", "places", "fair", "two", "same", "hand", "unlike");

    private static final String[] CALLED = {
        "order", "order", "pair", "pair", "pair", "pair", "pair", "pair", "pair", "pair", "round", "stack",
        "beside", "times", "held", "row", "dual", "part", "drop", "drop", "told", "told", "told", "told",
        "count", "below", "widest", "of", "of", "low", "rowOut", "before", "places", "fair", "two", "two",
        "invert", "bound", "bound", "uneven", "bent", "same", "lay", "lay", "lay", "lay", "lay", "lay",
        "clear", "hand", "hand", "unlike", "act", "act", "trace", "sheet", "cell", "cell", "cell", "cell",
        "pairs", "pairs", "forge", "forge", "forge"};

    private RandomRunsTest() {
    }

    public static void main(String[] args) throws ReflectiveOperationException {
        for (int run = 0; run < RUNS; run++) {
            oneRun(run);
        }
        Due.end();
    }

    private static void oneRun(int run) throws ReflectiveOperationException {
        Random random = new Random(run);
        HalfOrders x = new HalfOrders();
        PlainOrders y = new PlainOrders();
        int used = 0;
        for (int i = 0; i < CALLS && used + 5 <= CALLS; i++) {
            String name = CALLED[random.nextInt(CALLED.length)];
            Method ours = method(HalfOrders.class, name);
            Object[] numbers = numbersFor(name, ours.getParameterCount(), random, y);
            if (DEAR.contains(name) && isTooLarge(name, numbers, y)) {
                continue;
            }
            String call = "run " + run + ", call " + i + ": " + name + Arrays.toString(numbers);
            long got = ((Number) ours.invoke(x, numbers)).longValue();
            long want = ((Number) method(PlainOrders.class, name).invoke(y, numbers)).longValue();
            Due.due(call, got, want);
            Due.due(call + ", status()", x.status(), y.status());
            used += 2;
            if (random.nextInt(4) == 0) {
                Due.due(call + ", count(1)", x.count(1), y.count(1));
                Due.due(call + ", round(1)", x.round(1), y.round(1));
                Due.due(call + ", trace(2)", x.trace(2), y.trace(2));
                used += 3;
            }
        }
    }

    private static Method method(Class<?> of, String name) {
        for (Method method : of.getDeclaredMethods()) {
            boolean hasNumbersAlone = Arrays.stream(method.getParameterTypes()).allMatch(type -> type == int.class);
            if (method.getName().equals(name) && hasNumbersAlone
                    && !java.lang.reflect.Modifier.isPrivate(method.getModifiers())) {
                return method;
            }
        }
        throw new IllegalStateException(name);
    }

    private static boolean isTooLarge(String name, Object[] numbers, PlainOrders y) {
        int order = name.equals("hand") || name.equals("unlike") ? y.count(2) : (Integer) numbers[0];
        return y.told(order, 1) > MOST_PLAIN_THINGS;
    }

    private static Object[] numbersFor(String name, int many, Random random, PlainOrders y) {
        Object[] numbers = new Object[many];
        int orders = y.count(0);
        for (int i = 0; i < many; i++) {
            numbers[i] = within(random, -1, 10);
        }
        if (many > 0 && random.nextInt(8) != 0 && orders > 0) {
            numbers[0] = random.nextInt(orders);
        }
        int things = many > 0 ? Math.max(1, y.told((Integer) numbers[0], 1)) : 1;
        for (int i = 1; i < many; i++) {
            if (random.nextInt(10) != 0) {
                numbers[i] = random.nextInt(things);
            }
        }
        fitOrderCalls(name, numbers, random, y, things);
        fitOtherCalls(name, numbers, random, y);
        return numbers;
    }

    private static int within(Random random, int least, int most) {
        return least + random.nextInt(most - least + 1);
    }

    /** Mostly from 0 to what is usual, at times from one below to one over. */
    private static int mostly(Random random, int usual, int least, int most) {
        return random.nextInt(7) == 0 ? within(random, least, most) : within(random, 0, usual);
    }

    private static void fitOrderCalls(String name, Object[] numbers, Random random, PlainOrders y, int things) {
        switch (name) {
            case "order":
            case "row":
                numbers[0] = mostly(random, 5, -2, 11);
                break;
            case "stack":
            case "beside":
            case "times":
            case "same":
                numbers[1] = within(random, -1, y.count(0));
                break;
            case "part":
                numbers[1] = random.nextInt(9) == 0 ? random.nextInt() : random.nextInt(1 << things);
                break;
            case "told":
                numbers[1] = within(random, -1, 13);
                break;
            case "of":
                numbers[2] = within(random, -1, 2);
                break;
            case "low":
                numbers[1] = within(random, -1, 18);
                break;
            case "rowOut":
                numbers[1] = mostly(random, 5, -1, 98);
                break;
            case "two":
                numbers[1] = mostly(random, 1, -1, 2);
                break;
            case "bound":
                numbers[3] = mostly(random, 1, -1, 2);
                break;
            default:
                break;
        }
    }

    private static void fitOtherCalls(String name, Object[] numbers, Random random, PlainOrders y) {
        switch (name) {
            case "count":
            case "hand":
                numbers[0] = within(random, -1, 4);
                break;
            case "unlike":
                numbers[0] = mostly(random, 5, -1, 98);
                break;
            case "lay":
                if (y.count(2) >= 0 && random.nextInt(4) != 0) {
                    numbers[0] = y.count(2);
                }
                break;
            case "act":
                numbers[1] = within(random, -1, 4);
                numbers[2] = random.nextInt();
                break;
            case "sheet":
                numbers[0] = within(random, -1, 4);
                numbers[1] = within(random, -2, 3);
                numbers[2] = within(random, -2, 21);
                break;
            case "cell":
                numbers[0] = within(random, -1, 4);
                numbers[1] = within(random, -1, 12);
                numbers[2] = mostly(random, 3, -2, 101);
                break;
            case "pairs":
                numbers[1] = within(random, -1, 4);
                numbers[2] = within(random, -1, 3);
                numbers[3] = within(random, -1, 11);
                break;
            case "forge":
                numbers[0] = within(random, -1, 7);
                numbers[1] = mostly(random, 5, -103, 103);
                numbers[2] = mostly(random, 7, -103, 103);
                break;
            default:
                break;
        }
    }
}
