/** Promises 13 to 28: what is asked of ORDERS. */
public final class AskingTest {
    private AskingTest() {
    }

    public static void main(String[] args) {
        toldOfTheBent();
        toldOfNoThings();
        toldOfLattices();
        toldOfNoTwo();
        countTells();
        belowTells();
        widestTells();
        chainsAndLayers();
        lowSets();
        rowsOut();
        beforeAndPlaces();
        fairTells();
        twoTells();
        invertTells();
        boundTells();
        unevenTells();
        bentTells();
        sameTells();
        questionsLeaveStatus();
        Due.end();
    }

    /** 0 and 1 BELOW 2, 1 BELOW 3. */
    private static HalfOrders bentOrder() {
        HalfOrders x = new HalfOrders();
        x.order(4);
        x.pair(0, 0, 2);
        x.pair(0, 1, 2);
        x.pair(0, 1, 3);
        return x;
    }

    /** 0 BELOW 1, 2, 3, all of them BELOW 4: a LATTICE that is not EVEN. */
    private static HalfOrders diamond() {
        HalfOrders x = new HalfOrders();
        x.order(5);
        for (int t = 1; t <= 3; t++) {
            x.pair(0, 0, t);
            x.pair(0, t, 4);
        }
        return x;
    }

    /** 0, 1, 2 and over them 3, 4, 5, each over all but one: more than TWO ROWS are needed. */
    private static HalfOrders crown() {
        HalfOrders x = new HalfOrders();
        x.order(6);
        for (int a = 0; a < 3; a++) {
            for (int b = 0; b < 3; b++) {
                if (a != b) {
                    x.pair(0, a, 3 + b);
                }
            }
        }
        return x;
    }

    private static void toldAll(String of, HalfOrders x, int order, int... due) {
        for (int what = 0; what < due.length; what++) {
            Due.due("13 told(" + order + ", " + what + ") of " + of, x.told(order, what), due[what]);
        }
    }

    private static void toldOfTheBent() {
        HalfOrders x = bentOrder();
        toldAll("the bent one", x, 0, 0, 4, 3, 3, 8, 2, 2, 5, 1, 0, 0, 0, 1);
        Due.due("13 told(0, 13)", x.told(0, 13), -1);
        Due.due("13 told(0, -1)", x.told(0, -1), -1);
        Due.due("13 told(1, 0)", x.told(1, 0), -1);
        Due.due("13 told(-1, 0)", x.told(-1, 0), -1);
        x.order(10);
        toldAll("ten without pairs", x, 1, 0, 10, 0, 0, 1024, 10, 1, 3628800, 9, 0, 0, 1, 1);
        x.row(10);
        toldAll("a ROW of ten", x, 2, 5, 10, 45, 9, 11, 1, 10, 1, 0, 1, 1, 1, 1);
    }

    private static void toldOfNoThings() {
        HalfOrders x = new HalfOrders();
        x.order(0);
        toldAll("none", x, 0, 0, 0, 0, 0, 1, 0, 0, 1, 0, 0, 0, 1, 1);
        x.order(1);
        toldAll("one", x, 1, 0, 1, 0, 0, 2, 1, 1, 1, 0, 1, 1, 1, 1);
    }

    private static void toldOfLattices() {
        HalfOrders x = diamond();
        toldAll("the diamond", x, 0, 0, 5, 7, 6, 10, 3, 3, 6, 2, 1, 0, 1, 1);
        x.order(2);
        x.order(3);
        x.held(1);
        Due.due("13 told(3, 9), HELD", x.told(3, 9), 1);
        Due.due("13 told(3, 10), HELD", x.told(3, 10), 1);
        x.held(2);
        Due.due("13 told(4, 10), HELD", x.told(4, 10), 1);
        Due.due("13 told(4, 12), HELD of three", x.told(4, 12), 0);
        Due.due("13 told(4, 7), HELD of three", x.told(4, 7), 48);
    }

    private static void toldOfNoTwo() {
        HalfOrders x = crown();
        Due.due("13 told(0, 12)", x.told(0, 12), 0);
        Due.due("13 told(0, 11)", x.told(0, 11), 0);
        Due.due("23 two(0, 0, 0), none", x.two(0, 0, 0), -1);
        Due.due("23 two(0, 1, 5), none", x.two(0, 1, 5), -1);
    }

    private static void countTells() {
        HalfOrders x = new HalfOrders();
        x.order(3);
        x.row(2);
        x.lay(1, 1);
        x.lay(1, 0);
        x.act(1, 0, 7);
        Due.due("14 count(0)", x.count(0), 2);
        Due.due("14 count(1)", x.count(1), 2);
        Due.due("14 count(2)", x.count(2), 1);
        Due.due("14 count(3)", x.count(3), 3);
        Due.due("14 count(4)", x.count(4), -1);
        Due.due("14 count(-1)", x.count(-1), -1);
        x.clear();
        Due.due("14 count(2), empty", x.count(2), -1);
    }

    private static void belowTells() {
        HalfOrders x = new HalfOrders();
        x.row(3);
        Due.due("15 below(0, 0, 1)", x.below(0, 0, 1), 2);
        Due.due("15 below(0, 0, 2)", x.below(0, 0, 2), 1);
        Due.due("15 below(0, 2, 0)", x.below(0, 2, 0), 0);
        Due.due("15 below(0, 1, 1)", x.below(0, 1, 1), 0);
        Due.due("15 below(0, 0, 3)", x.below(0, 0, 3), -1);
        Due.due("15 below(0, -1, 0)", x.below(0, -1, 0), -1);
        Due.due("15 below(1, 0, 1)", x.below(1, 0, 1), -1);
    }

    private static void widestTells() {
        HalfOrders x = bentOrder();
        // {0, 1}, {0, 3} and {2, 3}: the first.
        Due.due("16 widest(0)", x.widest(0), 3);
        Due.due("16 widest(1)", x.widest(1), -1);
        Due.due("16 widest(-1)", x.widest(-1), -1);
        x.order(0);
        Due.due("16 widest(1)", x.widest(1), 0);
        x.order(5);
        x.pair(2, 0, 1);
        x.pair(2, 4, 2);
        x.pair(2, 4, 3);
        // {0, 2, 3} is ahead of {1, 2, 3}.
        Due.due("16 widest(2)", x.widest(2), 13);
    }

    private static void chainsAndLayers() {
        HalfOrders x = new HalfOrders();
        x.order(5);
        // 0 BELOW 1, 0 BELOW 2, 3 BELOW 1, 4 BELOW 3: {0, 1} leaves 2 and 4 apart, with three CHAINS.
        x.pair(0, 0, 1);
        x.pair(0, 0, 2);
        x.pair(0, 3, 1);
        x.pair(0, 4, 3);
        int[] chains = {0, 1, 0, 1, 1};
        int[] layers = {0, 2, 1, 1, 0};
        for (int t = 0; t < 5; t++) {
            Due.due("17 of(0, " + t + ", 0)", x.of(0, t, 0), chains[t]);
            Due.due("17 of(0, " + t + ", 1)", x.of(0, t, 1), layers[t]);
        }
        Due.due("17 of(0, 0, 2)", x.of(0, 0, 2), -1);
        Due.due("17 of(0, 0, -1)", x.of(0, 0, -1), -1);
        Due.due("17 of(0, 5, 0)", x.of(0, 5, 0), -1);
        Due.due("17 of(0, -1, 1)", x.of(0, -1, 1), -1);
        Due.due("17 of(1, 0, 0)", x.of(1, 0, 0), -1);
        x.order(10);
        Due.due("17 of(1, 9, 0)", x.of(1, 9, 0), 9);
        x.row(10);
        Due.due("17 of(2, 9, 0)", x.of(2, 9, 0), 0);
        Due.due("17 of(2, 9, 1)", x.of(2, 9, 1), 9);
    }

    private static void lowSets() {
        HalfOrders x = bentOrder();
        int[] due = {0, 1, 2, 3, 7, 10, 11, 15, -1};
        for (int i = 0; i < due.length; i++) {
            Due.due("18 low(0, " + i + ")", x.low(0, i), due[i]);
        }
        Due.due("18 low(0, -1)", x.low(0, -1), -1);
        Due.due("18 low(1, 0)", x.low(1, 0), -1);
        x.order(0);
        Due.due("18 low(1, 0)", x.low(1, 0), 0);
        Due.due("18 low(1, 1)", x.low(1, 1), -1);
        x.order(10);
        Due.due("18 low(2, 1023)", x.low(2, 1023), 1023);
        Due.due("18 low(2, 1024)", x.low(2, 1024), -1);
    }

    private static void rowsOut() {
        HalfOrders x = bentOrder();
        int[][] due = {{0, 1, 2, 3}, {0, 1, 3, 2}, {1, 0, 2, 3}, {1, 0, 3, 2}, {1, 3, 0, 2}};
        for (int rank = 0; rank < due.length; rank++) {
            for (int i = 0; i < 4; i++) {
                Due.due("19 rowOut(0, " + rank + ", " + i + ")", x.rowOut(0, rank, i), due[rank][i]);
            }
        }
        Due.due("19 rowOut(0, 5, 0)", x.rowOut(0, 5, 0), -1);
        Due.due("19 rowOut(0, -1, 0)", x.rowOut(0, -1, 0), -1);
        Due.due("19 rowOut(0, 0, 4)", x.rowOut(0, 0, 4), -1);
        Due.due("19 rowOut(0, 0, -1)", x.rowOut(0, 0, -1), -1);
        Due.due("19 rowOut(1, 0, 0)", x.rowOut(1, 0, 0), -1);
        x.order(10);
        for (int i = 0; i < 10; i++) {
            Due.due("19 rowOut(1, 0, " + i + ")", x.rowOut(1, 0, i), i);
            Due.due("19 rowOut(1, 3628799, " + i + ")", x.rowOut(1, 3628799, i), 9 - i);
        }
        Due.due("19 rowOut(1, 3628800, 0)", x.rowOut(1, 3628800, 0), -1);
    }

    private static void beforeAndPlaces() {
        HalfOrders x = bentOrder();
        Due.due("20 before(0, 0, 1)", x.before(0, 0, 1), 2);
        Due.due("20 before(0, 1, 0)", x.before(0, 1, 0), 3);
        Due.due("20 before(0, 1, 2)", x.before(0, 1, 2), 5);
        Due.due("20 before(0, 2, 1)", x.before(0, 2, 1), 0);
        Due.due("20 before(0, 3, 0)", x.before(0, 3, 0), 1);
        Due.due("20 before(0, 1, 1)", x.before(0, 1, 1), -1);
        Due.due("20 before(0, 4, 1)", x.before(0, 4, 1), -1);
        Due.due("20 before(0, 1, -1)", x.before(0, 1, -1), -1);
        Due.due("20 before(1, 0, 1)", x.before(1, 0, 1), -1);
        long[] places = {0 + 0 + 1 + 1 + 2, 1 + 1, 2 + 3 + 2 + 3 + 3, 3 + 2 + 3 + 2 + 1};
        for (int t = 0; t < 4; t++) {
            Due.due("21 places(0, " + t + ")", x.places(0, t), places[t]);
        }
        Due.due("21 places(0, 4)", x.places(0, 4), -1);
        Due.due("21 places(0, -1)", x.places(0, -1), -1);
        Due.due("21 places(1, 0)", x.places(1, 0), -1);
        x.order(10);
        Due.due("20 before(1, 9, 0)", x.before(1, 9, 0), 1814400);
        Due.due("21 places(1, 3)", x.places(1, 3), 45L * 362880);
    }

    private static void fairTells() {
        HalfOrders x = bentOrder();
        Due.due("22 fair(0)", x.fair(0), 1);
        Due.due("22 fair(1)", x.fair(1), -1);
        x.row(4);
        Due.due("22 fair(1)", x.fair(1), -1);
        x.row(3);
        x.order(1);
        // 3 stands at any of four places: ahead of 0 in one row of four, ahead of 1 in two.
        x.beside(2, 3);
        Due.due("22 fair(4)", x.fair(4), 13);
        x.row(2);
        x.beside(5, 3);
        // One row of three: 11 times 2 is 22, 24 at most; 11 times 1 is 11, 9 at least.
        Due.due("22 fair(6)", x.fair(6), 2);
    }

    private static void twoTells() {
        HalfOrders x = bentOrder();
        int[] first = {0, 1, 2, 3};
        int[] second = {1, 3, 0, 2};
        for (int i = 0; i < 4; i++) {
            Due.due("23 two(0, 0, " + i + ")", x.two(0, 0, i), first[i]);
            Due.due("23 two(0, 1, " + i + ")", x.two(0, 1, i), second[i]);
        }
        Due.due("23 two(0, 2, 0)", x.two(0, 2, 0), -1);
        Due.due("23 two(0, -1, 0)", x.two(0, -1, 0), -1);
        Due.due("23 two(0, 0, 4)", x.two(0, 0, 4), -1);
        Due.due("23 two(0, 1, -1)", x.two(0, 1, -1), -1);
        Due.due("23 two(1, 0, 0)", x.two(1, 0, 0), -1);
        x.order(10);
        x.row(10);
        for (int i = 0; i < 10; i++) {
            Due.due("23 two(1, 0, " + i + ")", x.two(1, 0, i), i);
            Due.due("23 two(1, 1, " + i + ")", x.two(1, 1, i), 9 - i);
            Due.due("23 two(2, 1, " + i + ")", x.two(2, 1, i), i);
        }
    }

    private static void invertTells() {
        HalfOrders x = diamond();
        Due.due("24 invert(0, 0, 0)", x.invert(0, 0, 0), 1);
        Due.due("24 invert(0, 0, 1)", x.invert(0, 0, 1), -1);
        Due.due("24 invert(0, 0, 4)", x.invert(0, 0, 4), 2);
        Due.due("24 invert(0, 1, 4)", x.invert(0, 1, 4), -1);
        Due.due("24 invert(0, 4, 0)", x.invert(0, 4, 0), 0);
        Due.due("24 invert(0, 1, 2)", x.invert(0, 1, 2), 0);
        Due.due("24 invert(0, 5, 2)", x.invert(0, 5, 2), -1000000);
        Due.due("24 invert(0, 1, -1)", x.invert(0, 1, -1), -1000000);
        Due.due("24 invert(1, 0, 0)", x.invert(1, 0, 0), -1000000);
        x.order(3);
        x.held(1);
        Due.due("24 invert(2, 0, 7)", x.invert(2, 0, 7), -1);
        x.row(3);
        Due.due("24 invert(3, 0, 2)", x.invert(3, 0, 2), 0);
        x.order(10);
        for (int t = 1; t < 9; t++) {
            x.pair(4, t, 0);
            x.pair(4, 9, t);
        }
        Due.due("24 invert(4, 9, 0)", x.invert(4, 9, 0), 7);
    }

    private static void boundTells() {
        HalfOrders x = bentOrder();
        Due.due("25 bound(0, 0, 1, 0)", x.bound(0, 0, 1, 0), 2);
        Due.due("25 bound(0, 0, 1, 1)", x.bound(0, 0, 1, 1), -1);
        Due.due("25 bound(0, 2, 3, 1)", x.bound(0, 2, 3, 1), 1);
        Due.due("25 bound(0, 2, 3, 0)", x.bound(0, 2, 3, 0), -1);
        Due.due("25 bound(0, 1, 3, 0)", x.bound(0, 1, 3, 0), 3);
        Due.due("25 bound(0, 1, 3, 1)", x.bound(0, 1, 3, 1), 1);
        Due.due("25 bound(0, 3, 3, 0)", x.bound(0, 3, 3, 0), 3);
        Due.due("25 bound(0, 3, 3, 1)", x.bound(0, 3, 3, 1), 3);
        Due.due("25 bound(0, 0, 1, 2)", x.bound(0, 0, 1, 2), -2);
        Due.due("25 bound(0, 0, 1, -1)", x.bound(0, 0, 1, -1), -2);
        Due.due("25 bound(0, 0, 4, 0)", x.bound(0, 0, 4, 0), -2);
        Due.due("25 bound(0, -1, 0, 0)", x.bound(0, -1, 0, 0), -2);
        Due.due("25 bound(1, 0, 0, 0)", x.bound(1, 0, 0, 0), -2);
        x.order(4);
        for (int low = 0; low < 2; low++) {
            x.pair(1, low, 2);
            x.pair(1, low, 3);
        }
        Due.due("25 bound(1, 0, 1, 0), two of them", x.bound(1, 0, 1, 0), -1);
    }

    private static void unevenTells() {
        HalfOrders x = diamond();
        Due.due("26 uneven(0)", x.uneven(0), 123);
        Due.due("26 uneven(1)", x.uneven(1), -1);
        x.order(5);
        // 0 BELOW 1 BELOW 2 BELOW 4, 0 BELOW 3 BELOW 4.
        x.pair(1, 0, 1);
        x.pair(1, 1, 2);
        x.pair(1, 2, 4);
        x.pair(1, 0, 3);
        x.pair(1, 3, 4);
        Due.due("26 uneven(1)", x.uneven(1), 213);
        Due.due("13 told(1, 9)", x.told(1, 9), 1);
        Due.due("13 told(1, 10)", x.told(1, 10), 0);
        x.row(4);
        Due.due("26 uneven(2)", x.uneven(2), -1);
        x.order(2);
        Due.due("26 uneven(3)", x.uneven(3), -1);
    }

    private static void bentTells() {
        HalfOrders x = bentOrder();
        Due.due("27 bent(0)", x.bent(0), 123);
        x.dual(0);
        // 2 BELOW 0 and 1, 3 BELOW 1.
        Due.due("27 bent(1)", x.bent(1), 3210);
        Due.due("27 bent(2)", x.bent(2), -1);
        Due.due("27 bent(-1)", x.bent(-1), -1);
        x.pair(0, 0, 3);
        Due.due("27 bent(0), no more", x.bent(0), -1);
        Due.due("13 told(0, 11)", x.told(0, 11), 1);
        x.order(0);
        Due.due("27 bent(2)", x.bent(2), -1);
    }

    private static void sameTells() {
        HalfOrders x = new HalfOrders();
        x.order(4);
        x.pair(0, 0, 1);
        x.pair(0, 0, 2);
        x.order(4);
        x.pair(1, 3, 0);
        x.pair(1, 3, 1);
        int[] due = {3, 0, 1, 2};
        for (int t = 0; t < 4; t++) {
            Due.due("28 same(0, 1, " + t + ")", x.same(0, 1, t), due[t]);
            Due.due("28 same(1, 0, " + due[t] + ")", x.same(1, 0, due[t]), t);
            Due.due("28 same(0, 0, " + t + ")", x.same(0, 0, t), t);
        }
        Due.due("28 same(0, 1, 4)", x.same(0, 1, 4), -1);
        Due.due("28 same(0, 1, -1)", x.same(0, 1, -1), -1);
        Due.due("28 same(0, 2, 0)", x.same(0, 2, 0), -1);
        Due.due("28 same(2, 0, 0)", x.same(2, 0, 0), -1);
        x.dual(0);
        Due.due("28 same(0, 2, 0), none", x.same(0, 2, 0), -1);
        x.row(3);
        Due.due("28 same(3, 0, 0), another size", x.same(3, 0, 0), -1);
        x.order(10);
        x.order(10);
        Due.due("28 same(4, 5, 9)", x.same(4, 5, 9), 9);
    }

    private static void questionsLeaveStatus() {
        HalfOrders x = new HalfOrders();
        x.order(3);
        x.order(-1);
        x.round(0);
        x.told(0, 7);
        x.count(0);
        x.below(0, 0, 1);
        x.widest(0);
        x.of(0, 0, 0);
        x.low(0, 0);
        x.rowOut(0, 0, 0);
        x.before(0, 0, 1);
        x.places(0, 0);
        x.fair(0);
        x.two(0, 0, 0);
        x.invert(0, 0, 1);
        x.bound(0, 0, 1, 0);
        x.uneven(0);
        x.bent(0);
        x.same(0, 0, 0);
        x.hand(0);
        x.unlike(0);
        x.trace(0);
        Due.due("39 status() behind questions", x.status(), 1);
        x.clear();
        x.told(9, 99);
        x.widest(9);
        Due.due("39 status() behind wrong questions", x.status(), 0);
    }
}
