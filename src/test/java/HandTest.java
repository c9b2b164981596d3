/** Promises 29 to 34: THE HAND and ACTS. */
public final class HandTest {
    private HandTest() {
    }

    public static void main(String[] args) {
        layAndClear();
        handIsRanked();
        handLacks();
        handOfTen();
        unlikeTells();
        acts();
        actsAreRefused();
        Due.end();
    }

    private static void layAndClear() {
        HalfOrders x = new HalfOrders();
        x.order(3);
        x.row(3);
        Due.done("30 clear(), empty", x.clear(), 0, x);
        Due.refused("29 lay(2, 0)", x.lay(2, 0), x, 1);
        Due.refused("29 lay(-1, 0)", x.lay(-1, 0), x, 1);
        Due.refused("29 lay(0, 3)", x.lay(0, 3), x, 1);
        Due.refused("29 lay(0, -1)", x.lay(0, -1), x, 1);
        Due.due("14 count(2)", x.count(2), -1);
        Due.done("29 lay(1, 2)", x.lay(1, 2), 1, x);
        Due.done("29 lay(1, 0)", x.lay(1, 0), 2, x);
        Due.refused("29 lay(1, 2), it is in it", x.lay(1, 2), x, 3);
        Due.refused("29 lay(0, 1), another ORDER", x.lay(0, 1), x, 3);
        Due.refused("29 lay(0, 3), both", x.lay(0, 3), x, 1);
        Due.due("14 count(1)", x.count(1), 2);
        Due.due("14 count(2)", x.count(2), 1);
        Due.done("30 clear()", x.clear(), 2, x);
        Due.due("14 count(1)", x.count(1), 0);
        Due.done("29 lay(0, 2)", x.lay(0, 2), 1, x);
        Due.due("14 count(2)", x.count(2), 0);
    }

    private static void handIsRanked() {
        HalfOrders x = new HalfOrders();
        x.order(4);
        x.pair(0, 0, 2);
        x.pair(0, 1, 2);
        x.pair(0, 1, 3);
        for (int rank = 0; rank < 5; rank++) {
            x.clear();
            int jumps = 0;
            for (int i = 0; i < 4; i++) {
                Due.due("31 hand(0), not all", x.hand(0), -1);
                Due.due("31 hand(1), not all", x.hand(1), -1);
                x.lay(0, x.rowOut(0, rank, i));
                jumps += i > 0 && x.below(0, x.rowOut(0, rank, i - 1), x.rowOut(0, rank, i)) == 0 ? 1 : 0;
            }
            Due.due("31 hand(0)", x.hand(0), rank);
            Due.due("31 hand(1)", x.hand(1), jumps);
            Due.due("31 hand(2)", x.hand(2), -1);
            Due.due("31 hand(3)", x.hand(3), -1);
            Due.due("31 hand(-1)", x.hand(-1), -1);
        }
    }

    private static void handLacks() {
        HalfOrders x = new HalfOrders();
        Due.due("31 hand(0), empty", x.hand(0), -1);
        Due.due("31 hand(1), empty", x.hand(1), -1);
        Due.due("31 hand(2), empty", x.hand(2), -1);
        x.order(3);
        x.pair(0, 0, 1);
        x.lay(0, 2);
        Due.due("31 hand(2)", x.hand(2), -1);
        x.lay(0, 1);
        Due.due("31 hand(2)", x.hand(2), 1);
        x.lay(0, 0);
        Due.due("31 hand(2), it comes too late", x.hand(2), 1);
        Due.due("31 hand(0), no ROW OUT", x.hand(0), -1);
        Due.due("31 hand(1), no ROW OUT", x.hand(1), -1);
        Due.due("32 unlike(0), no ROW OUT", x.unlike(0), -1);
        x.clear();
        x.lay(0, 0);
        x.lay(0, 1);
        x.lay(0, 2);
        Due.due("31 hand(0)", x.hand(0), 0);
        x.pair(0, 2, 0);
        Due.due("31 hand(0), told later", x.hand(0), -1);
        Due.due("31 hand(2), told later", x.hand(2), 0);
    }

    private static void handOfTen() {
        HalfOrders x = new HalfOrders();
        x.order(10);
        for (int t = 9; t >= 0; t--) {
            x.lay(0, t);
        }
        Due.due("31 hand(0)", x.hand(0), 3628799);
        Due.due("31 hand(1)", x.hand(1), 9);
        Due.due("32 unlike(0)", x.unlike(0), 45);
        Due.due("32 unlike(3628799)", x.unlike(3628799), 0);
        Due.due("32 unlike(3628800)", x.unlike(3628800), -1);
        Due.refused("29 lay(0, 0), all are in it", x.lay(0, 0), x, 3);
    }

    private static void unlikeTells() {
        HalfOrders x = new HalfOrders();
        Due.due("32 unlike(0), empty", x.unlike(0), -1);
        x.order(3);
        x.lay(0, 1);
        x.lay(0, 2);
        Due.due("32 unlike(0), not all", x.unlike(0), -1);
        x.lay(0, 0);
        // 1 2 0 against 012, 021, 102, 120, 201, 210.
        int[] due = {2, 3, 1, 0, 2, 1, -1};
        for (int rank = 0; rank < due.length; rank++) {
            Due.due("32 unlike(" + rank + ")", x.unlike(rank), due[rank]);
        }
        Due.due("32 unlike(-1)", x.unlike(-1), -1);
    }

    private static void traceIs(HalfOrders x, int... due) {
        Due.due("14 count(3)", x.count(3), due.length);
        for (int i = 0; i < due.length; i++) {
            Due.due("34 trace(" + i + ")", x.trace(i), due[i]);
        }
        Due.due("34 trace(" + due.length + ")", x.trace(due.length), -1);
        Due.due("34 trace(-1)", x.trace(-1), -1);
    }

    private static void acts() {
        HalfOrders x = new HalfOrders();
        x.order(2);
        x.pair(0, 0, 1);
        x.stack(0, 0);
        x.beside(0, 0);
        x.times(0, 0);
        x.held(0);
        x.row(3);
        // n, p: 2 1, 4 6, 4 2, 4 5, 3 3, 3 3.
        Due.done("33 look", x.act(0, 0, 5), 6, x);
        traceIs(x, 10);
        Due.done("33 part", x.act(0, 1, 5), 12, x);
        traceIs(x, 11, 10);
        Due.done("33 join", x.act(0, 2, 5), 5, x);
        traceIs(x, 12);
        Due.done("33 tell", x.act(0, 3, 5), 12 ^ 5, x);
        traceIs(x, 13, 11, 10, 12);
        Due.done("33 STACK look", x.act(1, 0, 5), 12, x);
        traceIs(x, 20, 10);
        Due.done("33 STACK part", x.act(1, 1, 5), 48, x);
        traceIs(x, 11, 20, 10);
        Due.done("33 STACK tell", x.act(1, 3, 5), 68 ^ 9, x);
        traceIs(x, 21, 13, 11, 20, 10, 12);
        Due.done("33 BESIDE join", x.act(2, 2, 5), 9, x);
        traceIs(x, 30, 12);
        Due.done("33 BESIDE tell", x.act(2, 3, 5), 52 ^ 24, x);
        traceIs(x, 21, 13, 11, 20, 10, 30, 12);
        Due.done("33 TIMES part", x.act(3, 1, 5), 44 - 5, x);
        traceIs(x, 40, 11, 20, 10);
        Due.done("33 TIMES join", x.act(3, 2, 5), 6 + 11, x);
        traceIs(x, 41, 30, 12, 20, 10);
        Due.done("33 TIMES tell", x.act(3, 3, 5), (64 - 5) ^ (21 + 16), x);
        traceIs(x, 21, 13, 40, 11, 20, 10, 41, 30, 12, 20, 10);
        Due.done("33 HELD look", x.act(4, 0, 5), 5, x);
        traceIs(x, 50, 10);
        Due.done("33 HELD tell", x.act(4, 3, 5), 1 + (15 ^ 1), x);
        traceIs(x, 51, 12, 13, 11, 50, 10, 12);
        Due.done("33 ROW look", x.act(5, 0, 5), 18, x);
        traceIs(x, 61, 20, 10);
        Due.done("33 ROW part", x.act(5, 1, 5), 22 * 3, x);
        traceIs(x, 60, 11, 61, 20, 10);
        Due.done("33 ROW tell", x.act(5, 3, 5), (16 * 2 * 3) ^ 5, x);
        traceIs(x, 21, 13, 60, 11, 61, 20, 10, 12);
        Due.done("33 look, it wraps", x.act(0, 0, Integer.MAX_VALUE), Integer.MIN_VALUE, x);
        Due.done("33 tell, it wraps", x.act(1, 3, 1 << 31), (4 * 7) ^ -1, x);
    }

    private static void actsAreRefused() {
        HalfOrders x = new HalfOrders();
        Due.due("34 trace(0)", x.trace(0), -1);
        x.order(3);
        x.act(0, 1, 5);
        Due.refused("33 act(1, 0, 5)", x.act(1, 0, 5), x, 1);
        Due.refused("33 act(-1, 0, 5)", x.act(-1, 0, 5), x, 1);
        Due.refused("33 act(0, 4, 5)", x.act(0, 4, 5), x, 1);
        Due.refused("33 act(0, -1, 5)", x.act(0, -1, 5), x, 1);
        traceIs(x, 11, 10);
    }
}
