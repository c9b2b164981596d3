/** Objects for tests to begin with. */
final class Make {
    private Make() {
    }

    /** ORDER 0 of n THINGS is told pairs: low, high, low, high and so on. */
    static HalfOrders told(int n, int... pairs) {
        HalfOrders x = new HalfOrders();
        Due.done("order(" + n + ")", x.order(n), 0, x);
        tell(x, 0, pairs);
        return x;
    }

    static void tell(HalfOrders x, int order, int... pairs) {
        for (int i = 0; i + 1 < pairs.length; i += 2) {
            String call = "pair(" + order + ", " + pairs[i] + ", " + pairs[i + 1] + ")";
            Due.done(call, x.pair(order, pairs[i], pairs[i + 1]), 1, x);
        }
    }

    /** ORDER k is of KIND k, for k from 0 to 5; all have two THINGS or more. */
    static HalfOrders allKinds() {
        HalfOrders x = new HalfOrders();
        x.order(2);
        x.stack(0, 0);
        x.beside(0, 0);
        x.times(0, 0);
        x.held(0);
        x.row(3);
        for (int kind = 0; kind < 6; kind++) {
            Due.due("told(" + kind + ", 0)", x.told(kind, 0), kind);
        }
        return x;
    }

    /** As many ORDERS, each of n THINGS. */
    static HalfOrders orders(int many, int n) {
        HalfOrders x = new HalfOrders();
        for (int i = 0; i < many; i++) {
            Due.done("order(" + n + ")", x.order(n), i, x);
        }
        return x;
    }

    /** A SHEET with these numbers. */
    static void sheet(HalfOrders x, int sheet, int sort, int... numbers) {
        Due.done("sheet(" + sheet + ", " + sort + ", ..)", x.sheet(sheet, sort, numbers.length), 1, x);
        for (int i = 0; i < numbers.length; i++) {
            Due.done("cell(" + sheet + ", " + i + ", ..)", x.cell(sheet, i, numbers[i]), 1, x);
        }
    }
}
