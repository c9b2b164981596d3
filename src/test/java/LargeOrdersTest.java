import java.util.ArrayList;
import java.util.Collections;
import java.util.List;
import java.util.Random;

/** All questions about ORDERS of six to ten THINGS with few enough ROWS OUT, against the plain words. */
public final class LargeOrdersTest {
    private static final int ASKED = 500;
    private static final int MOST_ROWS = 300;

    private LargeOrdersTest() {
    }

    public static void main(String[] args) {
        Random random = new Random(1);
        for (int i = 0; i < ASKED; i++) {
            compare(i, 6 + i % 5, random);
        }
        Due.end();
    }

    /** ORDER 0 is told pairs till it has few ROWS OUT; ORDER 1 the same with other numbers. */
    private static void compare(int i, int n, Random random) {
        HalfOrders x = new HalfOrders();
        PlainOrders y = new PlainOrders();
        List<Integer> numbers = new ArrayList<>();
        for (int t = 0; t < n; t++) {
            numbers.add(t);
        }
        Collections.shuffle(numbers, random);
        for (int order = 0; order < 2; order++) {
            x.order(n);
            y.order(n);
        }
        boolean isTwisted = random.nextInt(5) == 0;
        for (int turn = 0; turn < 1000 && x.told(0, 7) > MOST_ROWS; turn++) {
            int a = random.nextInt(n);
            int b = random.nextInt(n);
            Due.due("LARGE " + i + ": pair", x.pair(0, a, b), y.pair(0, a, b));
            for (int at = 0; at < n; at++) {
                Due.due("LARGE " + i + ": round", x.round(at), y.round(at));
            }
            if (!isTwisted || turn % 4 != 0) {
                x.pair(1, numbers.get(a), numbers.get(b));
                y.pair(1, numbers.get(a), numbers.get(b));
            }
        }
        new Compare("LARGE " + i + ", " + n + " THINGS", x, y).askAll();
    }
}
