import java.util.ArrayList;
import java.util.List;

/** All questions about all ORDERS of up to four THINGS, and many of five, against the plain words. */
public final class SmallOrdersTest {
    private SmallOrdersTest() {
    }

    public static void main(String[] args) {
        for (int n = 0; n <= 4; n++) {
            // Each two THINGS: no pair told, or one way round, or the other.
            int ways = (int) Math.pow(3, n * (n - 1) / 2);
            for (int way = 0; way < ways; way++) {
                compare(n, way);
            }
        }
        for (int way = 0; way < 59049; way += 61) {
            compare(5, way);
        }
        Due.end();
    }

    private static void compare(int n, int way) {
        HalfOrders x = new HalfOrders();
        PlainOrders y = new PlainOrders();
        x.order(n);
        y.order(n);
        String name = n + " THINGS, way " + way;
        List<int[]> pairs = pairsOf(n, way);
        for (int[] two : pairs) {
            tell(name, x, y, two[0], two[1]);
        }
        y.dual(0);
        new Compare(name, () -> made(n, pairs), y).askAll();
    }

    private static List<int[]> pairsOf(int n, int way) {
        List<int[]> pairs = new ArrayList<>();
        int left = way;
        for (int a = 0; a < n; a++) {
            for (int b = a + 1; b < n; b++) {
                int how = left % 3;
                left /= 3;
                if (how != 0) {
                    pairs.add(how == 1 ? new int[] {a, b} : new int[] {b, a});
                }
            }
        }
        return pairs;
    }

    private static HalfOrders made(int n, List<int[]> pairs) {
        HalfOrders x = new HalfOrders();
        x.order(n);
        for (int[] two : pairs) {
            x.pair(0, two[0], two[1]);
        }
        x.dual(0);
        return x;
    }

    private static void tell(String name, HalfOrders x, PlainOrders y, int low, int high) {
        Due.due(name + ": pair(0, " + low + ", " + high + ")", x.pair(0, low, high), y.pair(0, low, high));
        for (int i = 0; i < 5; i++) {
            Due.due(name + ": round(" + i + ")", x.round(i), y.round(i));
        }
    }
}
