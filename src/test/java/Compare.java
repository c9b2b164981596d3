import java.util.function.Supplier;

/** All questions about ORDER 0, and its maps to ORDER 1, answered by the program and by the plain words. */
final class Compare {
    /** An object is good for so many calls, of which its making takes some. */
    private static final int MOST_CALLS = 512;
    private static final int MAKING = 120;

    private final String name;
    private final Supplier<HalfOrders> make;
    private final PlainOrders y;
    private final int n;
    private HalfOrders x;
    private int used = MOST_CALLS;

    Compare(String name, Supplier<HalfOrders> make, PlainOrders y) {
        this.name = name;
        this.make = make;
        this.y = y;
        this.n = y.told(0, 1);
    }

    void askAll() {
        askOrder();
        for (int a = 0; a < n; a++) {
            askThing(a);
            for (int b = 0; b < n; b++) {
                askTwo(a, b);
            }
        }
    }

    /** An object for some calls: a new one, if the one before is used up. */
    private void begin(int calls) {
        if (used + calls > MOST_CALLS) {
            x = make.get();
            used = MAKING;
        }
        used += calls;
    }

    private void due(String call, long got, long want) {
        Due.due(name + ": " + call, got, want);
    }

    private void askOrder() {
        begin(17);
        for (int what = 0; what <= 12; what++) {
            due("told(0, " + what + ")", x.told(0, what), y.told(0, what));
        }
        due("widest(0)", x.widest(0), y.widest(0));
        due("fair(0)", x.fair(0), y.fair(0));
        due("uneven(0)", x.uneven(0), y.uneven(0));
        due("bent(0)", x.bent(0), y.bent(0));
        for (int i = 0; i <= y.told(0, 4); i++) {
            begin(1);
            due("low(0, " + i + ")", x.low(0, i), y.low(0, i));
        }
        for (int rank = 0; rank <= y.told(0, 7); rank++) {
            askRow(rank);
        }
    }

    private void askRow(int rank) {
        begin(4 + 2 * n);
        x.clear();
        y.clear();
        for (int i = 0; i < n; i++) {
            due("rowOut(0, " + rank + ", " + i + ")", x.rowOut(0, rank, i), y.rowOut(0, rank, i));
            x.lay(0, y.rowOut(0, rank, i));
            y.lay(0, y.rowOut(0, rank, i));
        }
        due("hand(0) of " + rank, x.hand(0), y.hand(0));
        due("hand(1) of " + rank, x.hand(1), y.hand(1));
        due("unlike(0) of " + rank, x.unlike(0), y.unlike(0));
    }

    private void askThing(int a) {
        begin(7);
        due("of(0, " + a + ", 0)", x.of(0, a, 0), y.of(0, a, 0));
        due("of(0, " + a + ", 1)", x.of(0, a, 1), y.of(0, a, 1));
        due("places(0, " + a + ")", x.places(0, a), y.places(0, a));
        due("two(0, 0, " + a + ")", x.two(0, 0, a), y.two(0, 0, a));
        due("two(0, 1, " + a + ")", x.two(0, 1, a), y.two(0, 1, a));
        due("same(0, 1, " + a + ")", x.same(0, 1, a), y.same(0, 1, a));
        due("same(0, 0, " + a + ")", x.same(0, 0, a), a);
    }

    private void askTwo(int a, int b) {
        begin(5);
        String two = "(0, " + a + ", " + b + ")";
        due("below" + two, x.below(0, a, b), y.below(0, a, b));
        due("before" + two, x.before(0, a, b), y.before(0, a, b));
        due("invert" + two, x.invert(0, a, b), y.invert(0, a, b));
        due("bound, way 0" + two, x.bound(0, a, b, 0), y.bound(0, a, b, 0));
        due("bound, way 1" + two, x.bound(0, a, b, 1), y.bound(0, a, b, 1));
    }
}
