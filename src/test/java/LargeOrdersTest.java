import java.util.ArrayList;
import java.util.Collections;
import java.util.List;
import java.util.Random;

/** All questions about ORDERS of six to ten THINGS with few enough ROWS OUT, against the plain words. */
public final class LargeOrdersTest {
    private static final int ASKED = 500;
    private static final int MOST_ROWS = 300;

    private LargeOrdersTest() {
    }

    public static void main(String[] args) {
        Random random = new Random(1);
        for (int i = 0; i < ASKED; i++) {
            compare(i, 6 + i % 5, random);
        }
        Due.end();
    }

    /** ORDER 0 is told pairs till it has few ROWS OUT; ORDER 1 the same, or most of them, with other numbers. */
    private static void compare(int i, int n, Random random) {
        PlainOrders y = new PlainOrders();
        y.order(n);
        y.order(n);
        List<int[]> pairs = new ArrayList<>();
        for (int turn = 0; turn < 1000 && made(n, pairs, List.of()).told(0, 7) > MOST_ROWS; turn++) {
            int a = random.nextInt(n);
            int b = (a + 1 + random.nextInt(n - 1)) % n;
            if (tell("LARGE " + i, made(n, pairs, List.of()), y, a, b) == 1) {
                pairs.add(new int[] {a, b});
            }
        }
        List<int[]> others = others(n, pairs, random);
        for (int[] two : others) {
            y.pair(1, two[0], two[1]);
        }
        new Compare("LARGE " + i + ", " + n + " THINGS", () -> made(n, pairs, others), y).askAll();
    }

    private static long tell(String name, HalfOrders x, PlainOrders y, int a, int b) {
        long answer = y.pair(0, a, b);
        Due.due(name + ": pair(0, " + a + ", " + b + ")", x.pair(0, a, b), answer);
        for (int at = 0; at <= 10; at++) {
            Due.due(name + ": round(" + at + ")", x.round(at), y.round(at));
        }
        return answer;
    }

    private static List<int[]> others(int n, List<int[]> pairs, Random random) {
        List<Integer> numbers = new ArrayList<>();
        for (int t = 0; t < n; t++) {
            numbers.add(t);
        }
        Collections.shuffle(numbers, random);
        boolean isTwisted = random.nextInt(5) == 0;
        List<int[]> others = new ArrayList<>();
        for (int[] two : pairs) {
            if (!isTwisted || others.size() < pairs.size() - 1) {
                others.add(new int[] {numbers.get(two[0]), numbers.get(two[1])});
            }
        }
        return others;
    }

    private static HalfOrders made(int n, List<int[]> pairs, List<int[]> others) {
        HalfOrders x = new HalfOrders();
        x.order(n);
        x.order(n);
        for (int[] two : pairs) {
            x.pair(0, two[0], two[1]);
        }
        for (int[] two : others) {
            x.pair(1, two[0], two[1]);
        }
        return x;
    }
}
