/** Promises 35 to 39: SHEETS, what the host refuses, and STATUS. */
public final class SheetTest {
    private SheetTest() {
    }

    public static void main(String[] args) {
        sheetsComeAndGo();
        cellsAreSet();
        pairsAreTold();
        pairsAreRefused();
        forgeKinds();
        forgeRows();
        forgeReads();
        forgeCopies();
        forgeStores();
        forgeDividesAndThrows();
        forgeIsRefused();
        statusIsOfTheLatest();
        Due.end();
    }

    private static void sheetsComeAndGo() {
        HalfOrders x = new HalfOrders();
        Due.refused("35 sheet(4, 0, 1)", x.sheet(4, 0, 1), x, 1);
        Due.refused("35 sheet(-1, 0, 1)", x.sheet(-1, 0, 1), x, 1);
        Due.refused("35 sheet(0, 3, 1)", x.sheet(0, 3, 1), x, 1);
        Due.refused("35 sheet(0, -2, 1)", x.sheet(0, -2, 1), x, 1);
        Due.refused("35 sheet(0, 0, 21)", x.sheet(0, 0, 21), x, 1);
        Due.refused("35 sheet(0, 0, -1)", x.sheet(0, 0, -1), x, 1);
        Due.refused("36 cell(0, 0, 1), still missing", x.cell(0, 0, 1), x, 10);
        Due.done("35 sheet(3, 1, 20)", x.sheet(3, 1, 20), 1, x);
        Due.done("36 cell(3, 19, 100)", x.cell(3, 19, 100), 1, x);
        Due.done("38 forge(2, 19, 3)", x.forge(2, 19, 3), 100, x);
        Due.done("35 sheet(3, 1, 20), anew", x.sheet(3, 1, 20), 1, x);
        Due.done("38 forge(2, 19, 3), all 0", x.forge(2, 19, 3), 0, x);
        Due.done("35 sheet(3, -1, 999)", x.sheet(3, -1, 999), 1, x);
        Due.refused("36 cell(3, 0, 1), missing", x.cell(3, 0, 1), x, 10);
        Due.refused("38 forge(2, 0, 3), missing", x.forge(2, 0, 3), x, 10);
        Due.done("35 sheet(2, -1, -5)", x.sheet(2, -1, -5), 1, x);
        Due.done("35 sheet(1, 2, 0)", x.sheet(1, 2, 0), 1, x);
        Due.refused("36 cell(1, 0, 1), no numbers", x.cell(1, 0, 1), x, 12);
    }

    private static void cellsAreSet() {
        HalfOrders x = new HalfOrders();
        x.sheet(1, 1, 3);
        Due.refused("36 cell(4, 0, 0)", x.cell(4, 0, 0), x, 1);
        Due.refused("36 cell(-1, 0, 0)", x.cell(-1, 0, 0), x, 1);
        Due.refused("36 cell(1, 0, 101)", x.cell(1, 0, 101), x, 1);
        Due.refused("36 cell(1, 0, -1)", x.cell(1, 0, -1), x, 1);
        Due.refused("36 cell(0, 0, 101), missing too", x.cell(0, 0, 101), x, 1);
        Due.refused("36 cell(0, 99, 0), missing", x.cell(0, 99, 0), x, 10);
        Due.refused("36 cell(1, 3, 0)", x.cell(1, 3, 0), x, 12);
        Due.refused("36 cell(1, -1, 0)", x.cell(1, -1, 0), x, 12);
        Due.refused("36 cell(1, 3, 101), outside too", x.cell(1, 3, 101), x, 1);
        Due.done("36 cell(1, 2, 9)", x.cell(1, 2, 9), 1, x);
        Due.done("38 forge(2, 2, 1)", x.forge(2, 2, 1), 9, x);
        Due.done("38 forge(2, 1, 1)", x.forge(2, 1, 1), 0, x);
    }

    private static void fill(HalfOrders x, int sheet, int sort, int... numbers) {
        x.sheet(sheet, sort, numbers.length);
        for (int i = 0; i < numbers.length; i++) {
            Due.done("fill", x.cell(sheet, i, numbers[i]), 1, x);
        }
    }

    private static void pairsAreTold() {
        HalfOrders x = new HalfOrders();
        x.order(5);
        fill(x, 0, 2, 0, 1, 1, 2, 0, 2, 2, 3, 3, 0, 3, 4);
        Due.done("37 pairs(0, 0, 2, 2)", x.pairs(0, 0, 2, 2), 2, x);
        Due.due("13 told(0, 2)", x.told(0, 2), 3);
        Due.done("37 pairs, till one is not so", x.pairs(0, 0, 2, 6), 4, x);
        Due.due("13 told(0, 2), what was told stays", x.told(0, 2), 6);
        Due.due("4 round(0), no pair()", x.round(0), -1);
        x.pair(0, 3, 1);
        Due.done("37 pairs, till one is not so", x.pairs(0, 0, 2, 6), 4, x);
        Due.due("4 round(0), as it was", x.round(0), 1);
        Due.due("4 round(2), as it was", x.round(2), 3);
        fill(x, 1, 0, 3, 4, 4, 5, 0, 4);
        Due.done("37 pairs, till one is no THING", x.pairs(0, 1, 0, 3), 1, x);
        fill(x, 1, 0, 2, 2);
        Due.done("37 pairs, the first refused", x.pairs(0, 1, 0, 1), 0, x);
        x.order(10);
        fill(x, 2, 1, 0, 1, 1, 2, 2, 3, 3, 4, 4, 5, 5, 6, 6, 7, 7, 8, 8, 9, 0, 9);
        Due.done("37 pairs, ten", x.pairs(1, 2, 1, 10), 10, x);
        Due.due("13 told(1, 2)", x.told(1, 2), 45);
    }

    private static void pairsAreRefused() {
        HalfOrders x = new HalfOrders();
        x.order(3);
        x.row(3);
        fill(x, 0, 1, 0, 1, 1);
        Due.refused("37 pairs(2, 0, 1, 1)", x.pairs(2, 0, 1, 1), x, 1);
        Due.refused("37 pairs(0, 4, 1, 1)", x.pairs(0, 4, 1, 1), x, 1);
        Due.refused("37 pairs(0, -1, 1, 1)", x.pairs(0, -1, 1, 1), x, 1);
        Due.refused("37 pairs(0, 0, 3, 1)", x.pairs(0, 0, 3, 1), x, 1);
        Due.refused("37 pairs(0, 0, -1, 1)", x.pairs(0, 0, -1, 1), x, 1);
        Due.refused("37 pairs(0, 0, 1, 11)", x.pairs(0, 0, 1, 11), x, 1);
        Due.refused("37 pairs(0, 0, 1, -1)", x.pairs(0, 0, 1, -1), x, 1);
        Due.refused("37 pairs(1, 0, 1, 11), a ROW", x.pairs(1, 0, 1, 11), x, 1);
        Due.refused("37 pairs(1, 1, 1, 1), a ROW", x.pairs(1, 1, 1, 1), x, 3);
        Due.refused("37 pairs(1, 1, 1, 0), a ROW", x.pairs(1, 1, 1, 0), x, 3);
        Due.refused("37 pairs(0, 1, 1, 9), missing", x.pairs(0, 1, 1, 9), x, 10);
        Due.refused("37 pairs(0, 0, 0, 9), another sort", x.pairs(0, 0, 0, 9), x, 11);
        Due.refused("37 pairs(0, 0, 1, 2), half a pair", x.pairs(0, 0, 1, 2), x, 12);
        Due.due("13 told(0, 2), nothing was told", x.told(0, 2), 0);
        Due.done("37 pairs(0, 1, 0, 0), missing", x.pairs(0, 1, 0, 0), 0, x);
        Due.done("37 pairs(0, 0, 2, 0), another sort", x.pairs(0, 0, 2, 0), 0, x);
        Due.done("37 pairs(0, 0, 1, 1)", x.pairs(0, 0, 1, 1), 1, x);
    }

    private static void forgeKinds() {
        HalfOrders x = new HalfOrders();
        x.order(2);
        x.stack(0, 0);
        x.beside(0, 0);
        x.times(0, 0);
        x.held(0);
        x.row(2);
        // By row the ORDER's KIND, by column the one that it is taken for.
        int[][] fits = {
            {1, 0, 0, 0, 0, 0}, {1, 1, 0, 0, 0, 0}, {1, 1, 1, 0, 0, 0},
            {1, 1, 1, 1, 0, 0}, {1, 0, 0, 0, 1, 0}, {1, 1, 0, 0, 0, 1}};
        for (int kind = 0; kind < 6; kind++) {
            for (int asked = 0; asked < 6; asked++) {
                for (int shift = -2; shift <= 2; shift++) {
                    int n = asked + 6 * shift;
                    int k = kind + 8 * shift;
                    String call = "38 forge(0, " + n + ", " + k + ")";
                    if (fits[kind][asked] == 1) {
                        Due.done(call, x.forge(0, n, k), kind, x);
                    } else {
                        Due.refused(call, x.forge(0, n, k), x, 11);
                    }
                }
            }
        }
        Due.refused("38 forge(0, 0, 6)", x.forge(0, 0, 6), x, 10);
        Due.refused("38 forge(0, 3, -1)", x.forge(0, 3, -1), x, 10);
    }

    private static void forgeRows() {
        HalfOrders x = new HalfOrders();
        Due.done("38 forge(1, 0, 0)", x.forge(1, 0, 0), 0, x);
        Due.done("38 forge(1, 100, 0)", x.forge(1, 100, 0), 100, x);
        Due.refused("38 forge(1, -1, 0)", x.forge(1, -1, 0), x, 13);
        Due.refused("38 forge(1, -100, 0)", x.forge(1, -100, 0), x, 13);
    }

    private static void forgeReads() {
        HalfOrders x = new HalfOrders();
        Due.refused("38 forge(2, 0, 1), missing", x.forge(2, 0, 1), x, 10);
        fill(x, 1, 1, 4, 5, 6);
        fill(x, 2, 0, 4, 5, 6);
        fill(x, 3, 2, 4, 5, 6);
        Due.done("38 forge(2, 2, 1)", x.forge(2, 2, 1), 6, x);
        Due.done("38 forge(2, 0, -3)", x.forge(2, 0, -3), 4, x);
        Due.done("38 forge(2, 1, 5)", x.forge(2, 1, 5), 5, x);
        Due.refused("38 forge(2, 3, 1)", x.forge(2, 3, 1), x, 12);
        Due.refused("38 forge(2, -1, 1)", x.forge(2, -1, 1), x, 12);
        Due.refused("38 forge(2, 0, 2), bytes", x.forge(2, 0, 2), x, 11);
        Due.refused("38 forge(2, 99, 3), ints", x.forge(2, 99, 3), x, 11);
        Due.refused("38 forge(2, 99, 0), missing", x.forge(2, 99, 0), x, 10);
    }

    private static void forgeCopies() {
        HalfOrders x = new HalfOrders();
        Due.refused("38 forge(3, -1, 0), missing", x.forge(3, -1, 0), x, 10);
        fill(x, 0, 0, 9, 1, 2, 4, 8);
        fill(x, 1, 0, 9, 1, 2);
        fill(x, 2, 1, 9, 1, 2);
        x.sheet(3, 0, 0);
        Due.done("38 forge(3, 0, 0)", x.forge(3, 0, 0), 0, x);
        Due.done("38 forge(3, 1, 0)", x.forge(3, 1, 0), 1, x);
        Due.done("38 forge(3, 3, 0)", x.forge(3, 3, 0), 7, x);
        Due.refused("38 forge(3, 4, 0)", x.forge(3, 4, 0), x, 12);
        Due.refused("38 forge(3, -1, 0)", x.forge(3, -1, 0), x, 12);
        Due.done("38 forge(3, 2, 1)", x.forge(3, 2, 1), 3, x);
        Due.done("38 forge(3, 2, -3)", x.forge(3, 2, -3), 3, x);
        Due.refused("38 forge(3, 3, 1)", x.forge(3, 3, 1), x, 12);
        Due.refused("38 forge(3, 1, 2), shorts", x.forge(3, 1, 2), x, 11);
        Due.refused("38 forge(3, -1, 2), shorts", x.forge(3, -1, 2), x, 11);
        Due.refused("38 forge(3, 0, 3), no numbers", x.forge(3, 0, 3), x, 12);
        x.sheet(3, 0, 1);
        Due.done("38 forge(3, 0, 3), one number", x.forge(3, 0, 3), 0, x);
        Due.refused("38 forge(3, 1, 3), one number", x.forge(3, 1, 3), x, 12);
    }

    private static void forgeStores() {
        HalfOrders x = new HalfOrders();
        x.order(2);
        x.stack(0, 0);
        x.beside(0, 0);
        x.times(0, 0);
        x.held(0);
        x.row(2);
        int[] due = {-1, 1, 2, 3, -1, 5};
        for (int k = 0; k < 6; k++) {
            Due.due("38 forge(4, 0, " + k + ")", x.forge(4, 0, k), due[k]);
            Due.due("38 status()", x.status(), due[k] == -1 ? 14 : 0);
        }
        Due.done("38 forge(4, 0, 6), none", x.forge(4, 0, 6), 0, x);
        Due.done("38 forge(4, 0, -3)", x.forge(4, 0, -3), 5, x);
    }

    private static void forgeDividesAndThrows() {
        HalfOrders x = new HalfOrders();
        Due.done("38 forge(5, 7, 0)", x.forge(5, 7, 0), 142, x);
        Due.done("38 forge(5, -7, 0)", x.forge(5, -7, 0), -142, x);
        Due.refused("38 forge(5, 0, 0)", x.forge(5, 0, 0), x, 15);
        Due.refused("38 forge(6, 2, 0)", x.forge(6, 2, 0), x, 10);
        Due.refused("38 forge(6, -2, 0)", x.forge(6, -2, 0), x, 10);
        Due.done("38 forge(6, 3, 0)", x.forge(6, 3, 0), 1, x);
        Due.done("38 forge(6, -3, 0)", x.forge(6, -3, 0), 1, x);
    }

    private static void forgeIsRefused() {
        HalfOrders x = new HalfOrders();
        for (int what = 0; what <= 6; what++) {
            Due.refused("38 forge, n 101", x.forge(what, 101, 0), x, 1);
            Due.refused("38 forge, n -101", x.forge(what, -101, 0), x, 1);
            Due.refused("38 forge, k 101", x.forge(what, 1, 101), x, 1);
            Due.refused("38 forge, k -101", x.forge(what, 1, -101), x, 1);
        }
        Due.refused("38 forge(7, 1, 1)", x.forge(7, 1, 1), x, 1);
        Due.refused("38 forge(-1, 1, 1)", x.forge(-1, 1, 1), x, 1);
        Due.refused("38 forge(1, -100, 100)", x.forge(1, -100, 100), x, 13);
    }

    private static void statusIsOfTheLatest() {
        HalfOrders x = new HalfOrders();
        Due.due("39 status()", x.status(), 0);
        x.drop();
        Due.due("39 status()", x.status(), 3);
        Due.due("39 status(), again", x.status(), 3);
        x.clear();
        Due.due("39 status()", x.status(), 0);
    }
}
