/** Promises 1 to 12: a new object, and how ORDERS are made, told and dropped. */
public final class MakingTest {
    private MakingTest() {
    }

    public static void main(String[] args) {
        newObject();
        orderIsMade();
        pairIsTold();
        pairIsRefused();
        roundTellsTheShortestRow();
        roundComesAndGoes();
        stackIsMade();
        besideIsMade();
        timesIsMade();
        heldIsMade();
        rowIsMade();
        dualIsMade();
        partIsMade();
        twoOrdersAreRefused();
        noRoomForNinth();
        ordersAreAsTheOthersWere();
        dropTakesTheLatest();
        Due.end();
    }

    private static void newObject() {
        HalfOrders x = new HalfOrders();
        Due.due("1 status()", x.status(), 0);
        Due.due("1 count(0)", x.count(0), 0);
        Due.due("1 count(1)", x.count(1), 0);
        Due.due("1 count(2)", x.count(2), -1);
        Due.due("1 count(3)", x.count(3), 0);
        Due.due("1 told(0, 0)", x.told(0, 0), -1);
        Due.due("1 round(0)", x.round(0), -1);
        for (int sheet = 0; sheet < 4; sheet++) {
            Due.refused("1 cell(" + sheet + ", 0, 0)", x.cell(sheet, 0, 0), x, 10);
        }
    }

    private static void orderIsMade() {
        HalfOrders x = new HalfOrders();
        Due.refused("2 order(-1)", x.order(-1), x, 1);
        Due.refused("2 order(11)", x.order(11), x, 1);
        Due.due("2 count(0)", x.count(0), 0);
        Due.done("2 order(0)", x.order(0), 0, x);
        Due.done("2 order(10)", x.order(10), 1, x);
        Due.due("2 told(0, 1)", x.told(0, 1), 0);
        Due.due("2 told(1, 1)", x.told(1, 1), 10);
        Due.due("2 told(1, 2)", x.told(1, 2), 0);
        Due.due("2 told(1, 0)", x.told(1, 0), 0);
        for (int i = 2; i < 8; i++) {
            Due.done("2 order(3)", x.order(3), i, x);
        }
        Due.refused("2 order(3), the ninth", x.order(3), x, 2);
        Due.refused("2 order(11), the ninth", x.order(11), x, 1);
        Due.due("2 count(0)", x.count(0), 8);
    }

    private static void pairIsTold() {
        HalfOrders x = new HalfOrders();
        x.order(6);
        Due.done("3 pair(0, 0, 1)", x.pair(0, 0, 1), 1, x);
        Due.done("3 pair(0, 2, 3)", x.pair(0, 2, 3), 1, x);
        Due.done("3 pair(0, 1, 2)", x.pair(0, 1, 2), 1, x);
        Due.due("3 below(0, 0, 3)", x.below(0, 0, 3), 1);
        Due.due("3 below(0, 0, 2)", x.below(0, 0, 2), 1);
        Due.due("3 below(0, 1, 3)", x.below(0, 1, 3), 1);
        Due.due("3 below(0, 1, 2)", x.below(0, 1, 2), 2);
        Due.due("3 told(0, 2)", x.told(0, 2), 6);
        Due.done("3 pair(0, 0, 3), so already", x.pair(0, 0, 3), 0, x);
        Due.done("3 pair(0, 1, 2), so already", x.pair(0, 1, 2), 0, x);
        Due.due("3 told(0, 2)", x.told(0, 2), 6);
    }

    private static void pairIsRefused() {
        HalfOrders x = new HalfOrders();
        x.order(3);
        x.row(3);
        x.pair(0, 0, 1);
        x.pair(0, 1, 2);
        Due.refused("3 pair(2, 0, 1)", x.pair(2, 0, 1), x, 1);
        Due.refused("3 pair(-1, 0, 1)", x.pair(-1, 0, 1), x, 1);
        Due.refused("3 pair(0, 3, 1)", x.pair(0, 3, 1), x, 1);
        Due.refused("3 pair(0, 1, 3)", x.pair(0, 1, 3), x, 1);
        Due.refused("3 pair(0, -1, 1)", x.pair(0, -1, 1), x, 1);
        Due.refused("3 pair(0, 1, 1)", x.pair(0, 1, 1), x, 1);
        Due.refused("3 pair(0, 2, 0)", x.pair(0, 2, 0), x, 3);
        Due.refused("3 pair(1, 0, 1), a ROW", x.pair(1, 0, 1), x, 3);
        Due.refused("3 pair(1, 1, 1), a ROW", x.pair(1, 1, 1), x, 1);
        Due.due("3 told(0, 2)", x.told(0, 2), 3);
    }

    private static void roundTellsTheShortestRow() {
        HalfOrders x = new HalfOrders();
        x.order(8);
        // From 0 to 7: by 6; by 1, 2 and 3; by 5.
        x.pair(0, 0, 6);
        x.pair(0, 6, 7);
        x.pair(0, 0, 1);
        x.pair(0, 1, 2);
        x.pair(0, 2, 3);
        x.pair(0, 3, 7);
        x.pair(0, 0, 5);
        x.pair(0, 5, 7);
        Due.refused("4 pair(0, 7, 0)", x.pair(0, 7, 0), x, 3);
        Due.due("4 round(0)", x.round(0), 0);
        Due.due("4 round(1)", x.round(1), 5);
        Due.due("4 round(2)", x.round(2), 7);
        Due.due("4 round(3)", x.round(3), -1);
        Due.due("4 round(-1)", x.round(-1), -1);
        x.pair(0, 2, 1);
        Due.due("4 round(0)", x.round(0), 1);
        Due.due("4 round(1)", x.round(1), 2);
        Due.due("4 round(2)", x.round(2), -1);
    }

    private static void roundComesAndGoes() {
        HalfOrders x = new HalfOrders();
        x.order(4);
        x.row(3);
        x.pair(0, 0, 1);
        x.pair(0, 1, 2);
        x.pair(0, 2, 0);
        Due.refused("4 pair(0, 2, 2)", x.pair(0, 2, 2), x, 1);
        Due.due("4 round(2), behind STATUS 1", x.round(2), 2);
        Due.refused("4 pair(1, 0, 1)", x.pair(1, 0, 1), x, 3);
        Due.due("4 round(2), behind another KIND", x.round(2), 2);
        x.sheet(0, 0, 2);
        x.cell(0, 1, 3);
        Due.done("4 pairs(0, 0, 0, 1)", x.pairs(0, 0, 0, 1), 1, x);
        Due.due("4 round(2), behind pairs()", x.round(2), 2);
        Due.done("4 pair(0, 0, 2), so already", x.pair(0, 0, 2), 0, x);
        Due.due("4 round(0), behind one that was done", x.round(0), -1);
        x.pair(0, 2, 0);
        Due.due("4 round(0)", x.round(0), 0);
        x.drop();
        Due.due("4 round(0), behind drop()", x.round(0), -1);
    }

    private static void stackIsMade() {
        HalfOrders x = twoOrders();
        Due.done("5 stack(0, 1)", x.stack(0, 1), 2, x);
        Due.due("5 told(2, 0)", x.told(2, 0), 1);
        Due.due("5 told(2, 1)", x.told(2, 1), 5);
        Due.due("5 told(2, 2)", x.told(2, 2), 8);
        Due.due("5 below(2, 0, 1)", x.below(2, 0, 1), 2);
        Due.due("5 below(2, 1, 2)", x.below(2, 1, 2), 1);
        Due.due("5 below(2, 1, 4)", x.below(2, 1, 4), 2);
        Due.due("5 below(2, 4, 2)", x.below(2, 4, 2), 2);
        Due.due("5 below(2, 2, 1)", x.below(2, 2, 1), 0);
        Due.due("5 below(2, 3, 4)", x.below(2, 3, 4), 0);
        Due.done("5 stack(0, 0)", x.stack(0, 0), 3, x);
        Due.due("5 told(3, 2)", x.told(3, 2), 6);
    }

    private static void besideIsMade() {
        HalfOrders x = twoOrders();
        Due.done("6 beside(0, 1)", x.beside(0, 1), 2, x);
        Due.due("6 told(2, 0)", x.told(2, 0), 2);
        Due.due("6 told(2, 1)", x.told(2, 1), 5);
        Due.due("6 told(2, 2)", x.told(2, 2), 2);
        Due.due("6 below(2, 0, 1)", x.below(2, 0, 1), 2);
        Due.due("6 below(2, 4, 2)", x.below(2, 4, 2), 2);
        Due.due("6 below(2, 0, 2)", x.below(2, 0, 2), 0);
    }

    private static void timesIsMade() {
        HalfOrders x = twoOrders();
        Due.done("7 times(0, 1)", x.times(0, 1), 2, x);
        Due.due("7 told(2, 0)", x.told(2, 0), 3);
        Due.due("7 told(2, 1)", x.told(2, 1), 6);
        // 0: (0, 0), 1: (0, 1), 2: (0, 2), 3: (1, 0), 4: (1, 1), 5: (1, 2); 2 of the second is BELOW 0.
        Due.due("7 told(2, 2)", x.told(2, 2), 6);
        Due.due("7 told(2, 3)", x.told(2, 3), 5);
        Due.due("7 below(2, 2, 0)", x.below(2, 2, 0), 2);
        Due.due("7 below(2, 5, 3)", x.below(2, 5, 3), 2);
        Due.due("7 below(2, 2, 3)", x.below(2, 2, 3), 1);
        Due.due("7 below(2, 1, 4)", x.below(2, 1, 4), 2);
        Due.due("7 below(2, 0, 5)", x.below(2, 0, 5), 0);
        x.order(0);
        Due.done("7 times(0, 3)", x.times(0, 3), 4, x);
        Due.due("7 told(4, 1)", x.told(4, 1), 0);
        Due.done("7 times(3, 0)", x.times(3, 0), 5, x);
    }

    private static void heldIsMade() {
        HalfOrders x = new HalfOrders();
        x.order(3);
        x.pair(0, 2, 0);
        // LOW SETS: none, {1}, {2}, {0, 2}, {1, 2}, all.
        Due.done("8 held(0)", x.held(0), 1, x);
        Due.due("8 told(1, 0)", x.told(1, 0), 4);
        Due.due("8 told(1, 1)", x.told(1, 1), 6);
        Due.due("8 below(1, 0, 5)", x.below(1, 0, 5), 1);
        Due.due("8 below(1, 1, 3)", x.below(1, 1, 3), 0);
        Due.due("8 below(1, 1, 4)", x.below(1, 1, 4), 2);
        Due.due("8 below(1, 2, 4)", x.below(1, 2, 4), 2);
        Due.due("8 below(1, 3, 4)", x.below(1, 3, 4), 0);
        Due.refused("8 held(-1)", x.held(-1), x, 1);
        Due.refused("8 held(2)", x.held(2), x, 1);
        x.order(0);
        Due.done("8 held(2)", x.held(2), 3, x);
        Due.due("8 told(3, 1)", x.told(3, 1), 1);
        x.row(9);
        Due.done("8 held(4)", x.held(4), 5, x);
        Due.due("8 told(5, 2)", x.told(5, 2), 45);
        x.row(10);
        Due.refused("8 held(6), eleven", x.held(6), x, 2);
        x.drop();
        x.order(4);
        Due.refused("8 held(6), sixteen", x.held(6), x, 2);
        x.order(1);
        Due.refused("8 held(7), the ninth", x.held(7), x, 2);
        Due.refused("8 held(8), the ninth", x.held(8), x, 1);
    }

    private static void rowIsMade() {
        HalfOrders x = new HalfOrders();
        Due.refused("9 row(-1)", x.row(-1), x, 1);
        Due.refused("9 row(11)", x.row(11), x, 1);
        Due.done("9 row(10)", x.row(10), 0, x);
        Due.due("9 told(0, 0)", x.told(0, 0), 5);
        Due.due("9 told(0, 1)", x.told(0, 1), 10);
        Due.due("9 told(0, 2)", x.told(0, 2), 45);
        Due.due("9 below(0, 3, 4)", x.below(0, 3, 4), 2);
        Due.due("9 below(0, 3, 9)", x.below(0, 3, 9), 1);
        Due.due("9 below(0, 4, 3)", x.below(0, 4, 3), 0);
        Due.done("9 row(0)", x.row(0), 1, x);
        for (int i = 2; i < 8; i++) {
            x.row(1);
        }
        Due.refused("9 row(1), the ninth", x.row(1), x, 2);
        Due.refused("9 row(-1), the ninth", x.row(-1), x, 1);
    }

    private static void dualIsMade() {
        HalfOrders x = new HalfOrders();
        x.row(3);
        Due.done("10 dual(0)", x.dual(0), 1, x);
        Due.due("10 told(1, 0)", x.told(1, 0), 0);
        Due.due("10 told(1, 1)", x.told(1, 1), 3);
        Due.due("10 below(1, 2, 0)", x.below(1, 2, 0), 1);
        Due.due("10 below(1, 1, 0)", x.below(1, 1, 0), 2);
        Due.due("10 below(1, 0, 1)", x.below(1, 0, 1), 0);
        Due.refused("10 dual(2)", x.dual(2), x, 1);
        Due.refused("10 dual(-1)", x.dual(-1), x, 1);
        fill(x, 2);
        Due.refused("10 dual(0), the ninth", x.dual(0), x, 2);
        Due.refused("10 dual(8), the ninth", x.dual(8), x, 1);
    }

    private static void partIsMade() {
        HalfOrders x = new HalfOrders();
        x.row(5);
        Due.done("11 part(0, 22)", x.part(0, 22), 1, x);
        Due.due("11 told(1, 0)", x.told(1, 0), 0);
        Due.due("11 told(1, 1)", x.told(1, 1), 3);
        Due.due("11 below(1, 0, 1)", x.below(1, 0, 1), 2);
        Due.due("11 below(1, 0, 2)", x.below(1, 0, 2), 1);
        Due.done("11 part(0, 0)", x.part(0, 0), 2, x);
        Due.due("11 told(2, 1)", x.told(2, 1), 0);
        Due.done("11 part(0, 31)", x.part(0, 31), 3, x);
        Due.due("11 told(3, 2)", x.told(3, 2), 10);
        Due.refused("11 part(0, 32)", x.part(0, 32), x, 1);
        Due.refused("11 part(0, -1)", x.part(0, -1), x, 1);
        Due.refused("11 part(0, 1024)", x.part(0, 1024), x, 1);
        Due.refused("11 part(4, 0)", x.part(4, 0), x, 1);
        x.order(4);
        x.pair(4, 3, 0);
        x.part(4, 13);
        Due.due("11 below(5, 2, 0)", x.below(5, 2, 0), 2);
        Due.due("11 told(5, 2)", x.told(5, 2), 1);
        fill(x, 6);
        Due.refused("11 part(0, 1), the ninth", x.part(0, 1), x, 2);
        Due.refused("11 part(0, 32), the ninth", x.part(0, 32), x, 1);
    }

    private static void twoOrdersAreRefused() {
        HalfOrders x = new HalfOrders();
        x.order(6);
        x.order(5);
        x.order(2);
        Due.refused("5 stack(0, 3)", x.stack(0, 3), x, 1);
        Due.refused("5 stack(-1, 0)", x.stack(-1, 0), x, 1);
        Due.refused("5 stack(0, 1), eleven", x.stack(0, 1), x, 2);
        Due.refused("6 beside(3, 0)", x.beside(3, 0), x, 1);
        Due.refused("6 beside(0, -1)", x.beside(0, -1), x, 1);
        Due.refused("6 beside(0, 1), eleven", x.beside(0, 1), x, 2);
        Due.refused("7 times(0, 3)", x.times(0, 3), x, 1);
        Due.refused("7 times(-1, 3)", x.times(-1, 3), x, 1);
        Due.refused("7 times(0, 2), twelve", x.times(0, 2), x, 2);
        Due.due("5 count(0)", x.count(0), 3);
        Due.done("5 stack(1, 1), ten", x.stack(1, 1), 3, x);
        Due.done("6 beside(1, 1), ten", x.beside(1, 1), 4, x);
        Due.done("7 times(1, 2), ten", x.times(1, 2), 5, x);
    }

    private static void noRoomForNinth() {
        HalfOrders x = new HalfOrders();
        fill(x, 0);
        Due.refused("5 stack(0, 1), the ninth", x.stack(0, 1), x, 2);
        Due.refused("6 beside(0, 1), the ninth", x.beside(0, 1), x, 2);
        Due.refused("7 times(0, 1), the ninth", x.times(0, 1), x, 2);
        Due.refused("5 stack(0, 8), the ninth", x.stack(0, 8), x, 1);
        Due.refused("6 beside(8, 0), the ninth", x.beside(8, 0), x, 1);
        Due.refused("7 times(-1, 1), the ninth", x.times(-1, 1), x, 1);
        Due.due("5 count(0)", x.count(0), 8);
    }

    private static void ordersAreAsTheOthersWere() {
        HalfOrders x = new HalfOrders();
        x.order(2);
        x.stack(0, 0);
        x.beside(0, 0);
        x.times(0, 0);
        x.held(0);
        x.dual(0);
        x.part(0, 3);
        x.pair(0, 0, 1);
        int[] pairs = {1, 4, 0, 0, 5, 0, 0};
        for (int i = 0; i < pairs.length; i++) {
            Due.due("5 told(" + i + ", 2), told later", x.told(i, 2), pairs[i]);
        }
        x.pair(5, 0, 1);
        Due.due("10 told(5, 2)", x.told(5, 2), 1);
        Due.done("11 pair(6, 1, 0)", x.pair(6, 1, 0), 1, x);
    }

    private static void dropTakesTheLatest() {
        HalfOrders x = new HalfOrders();
        Due.refused("12 drop(), none", x.drop(), x, 3);
        x.order(2);
        x.row(3);
        x.lay(0, 1);
        Due.done("12 drop()", x.drop(), 1, x);
        Due.due("12 told(1, 1)", x.told(1, 1), -1);
        Due.due("12 count(0)", x.count(0), 1);
        Due.due("12 count(1), laid for another one", x.count(1), 1);
        Due.done("12 drop()", x.drop(), 0, x);
        Due.due("12 count(1), laid for it", x.count(1), 0);
        Due.due("12 count(2)", x.count(2), -1);
        Due.refused("12 drop(), none any more", x.drop(), x, 3);
        Due.done("12 row(4)", x.row(4), 0, x);
        Due.due("12 told(0, 2)", x.told(0, 2), 6);
    }

    /** ORDER 0: 0 BELOW 1. ORDER 1: 2 BELOW 0, and 1. */
    private static HalfOrders twoOrders() {
        HalfOrders x = new HalfOrders();
        x.order(2);
        x.pair(0, 0, 1);
        x.order(3);
        x.pair(1, 2, 0);
        return x;
    }

    private static void fill(HalfOrders x, int from) {
        for (int i = from; i < 8; i++) {
            Due.done("fill", x.order(2), i, x);
        }
    }
}
