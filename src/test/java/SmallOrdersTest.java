/** All questions about all ORDERS of up to four THINGS, and many of five, against the plain words. */
public final class SmallOrdersTest {
    private SmallOrdersTest() {
    }

    public static void main(String[] args) {
        for (int n = 0; n <= 4; n++) {
            int cells = n * (n - 1) / 2;
            // Each two THINGS: no pair told, or one way round, or the other.
            int ways = (int) Math.pow(3, cells);
            for (int way = 0; way < ways; way++) {
                compare(n, way);
            }
        }
        for (int way = 0; way < 59049; way += 61) {
            compare(5, way);
        }
        Due.end();
    }

    private static void compare(int n, int way) {
        HalfOrders x = new HalfOrders();
        PlainOrders y = new PlainOrders();
        x.order(n);
        y.order(n);
        int left = way;
        for (int a = 0; a < n; a++) {
            for (int b = a + 1; b < n; b++) {
                int how = left % 3;
                left /= 3;
                if (how != 0) {
                    int low = how == 1 ? a : b;
                    int high = how == 1 ? b : a;
                    Due.due(name(n, way, "pair"), x.pair(0, low, high), y.pair(0, low, high));
                    for (int i = 0; i < n; i++) {
                        Due.due(name(n, way, "round(" + i + ")"), x.round(i), y.round(i));
                    }
                }
            }
        }
        x.dual(0);
        y.dual(0);
        askOrder(x, y, n, way);
        for (int a = 0; a < n; a++) {
            askThing(x, y, n, way, a);
            for (int b = 0; b < n; b++) {
                askTwo(x, y, n, way, a, b);
            }
        }
    }

    private static void askOrder(HalfOrders x, PlainOrders y, int n, int way) {
        for (int what = 0; what <= 12; what++) {
            Due.due(name(n, way, "told(" + what + ")"), x.told(0, what), y.told(0, what));
        }
        Due.due(name(n, way, "widest"), x.widest(0), y.widest(0));
        Due.due(name(n, way, "fair"), x.fair(0), y.fair(0));
        Due.due(name(n, way, "uneven"), x.uneven(0), y.uneven(0));
        Due.due(name(n, way, "bent"), x.bent(0), y.bent(0));
        for (int i = 0; i <= x.told(0, 4); i++) {
            Due.due(name(n, way, "low(" + i + ")"), x.low(0, i), y.low(0, i));
        }
        for (int rank = 0; rank <= x.told(0, 7); rank++) {
            for (int i = 0; i < n; i++) {
                Due.due(name(n, way, "rowOut(" + rank + ", " + i + ")"), x.rowOut(0, rank, i), y.rowOut(0, rank, i));
            }
        }
    }

    private static void askThing(HalfOrders x, PlainOrders y, int n, int way, int a) {
        Due.due(name(n, way, "of(" + a + ", 0)"), x.of(0, a, 0), y.of(0, a, 0));
        Due.due(name(n, way, "of(" + a + ", 1)"), x.of(0, a, 1), y.of(0, a, 1));
        Due.due(name(n, way, "places(" + a + ")"), x.places(0, a), y.places(0, a));
        Due.due(name(n, way, "two(0, " + a + ")"), x.two(0, 0, a), y.two(0, 0, a));
        Due.due(name(n, way, "two(1, " + a + ")"), x.two(0, 1, a), y.two(0, 1, a));
        Due.due(name(n, way, "same(" + a + ")"), x.same(0, 1, a), y.same(0, 1, a));
        Due.due(name(n, way, "same itself"), x.same(0, 0, a), a);
    }

    private static void askTwo(HalfOrders x, PlainOrders y, int n, int way, int a, int b) {
        String two = "(" + a + ", " + b + ")";
        Due.due(name(n, way, "below" + two), x.below(0, a, b), y.below(0, a, b));
        Due.due(name(n, way, "before" + two), x.before(0, a, b), y.before(0, a, b));
        Due.due(name(n, way, "invert" + two), x.invert(0, a, b), y.invert(0, a, b));
        Due.due(name(n, way, "bound 0" + two), x.bound(0, a, b, 0), y.bound(0, a, b, 0));
        Due.due(name(n, way, "bound 1" + two), x.bound(0, a, b, 1), y.bound(0, a, b, 1));
    }

    private static String name(int n, int way, String call) {
        return n + " THINGS, way " + way + ": " + call;
    }
}
