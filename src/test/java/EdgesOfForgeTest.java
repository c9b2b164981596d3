/** Each boundary case that promise 38 names, under the words that name it. */
public final class EdgesOfForgeTest {
    private static final int LEAST = Integer.MIN_VALUE;
    private static final int MOST = Integer.MAX_VALUE;

    private EdgesOfForgeTest() {
    }

    public static void main(String[] args) {
        anotherWhat();
        numbersOutside();
        lowestStatus();
        takenForAKind();
        kindsModuloSix();
        noSuchOrderToTake();
        rowsThatAreMade();
        shortsThatAreTaken();
        sheetsModuloFour();
        copiesOfMoreThanThereAre();
        copiesBeyondTheRowOfSix();
        copiesOfNone();
        copiesOfAnotherSort();
        putAmongStacks();
        dividedByNought();
        failuresThatAreThrown();
        Due.end();
    }

    private static int modulo(int k, int by) {
        return (k % by + by) % by;
    }

    /** "(STATUS 1: another ..)". */
    private static void anotherWhat() {
        HalfOrders x = Make.orders(8, 2);
        for (int what : new int[] {-1, 7, 8, LEAST, MOST}) {
            Due.refused("38 forge(" + what + ", 1, 1)", x.forge(what, 1, 1), x, 1);
        }
        Due.done("38 forge(0, 0, 0), the first", x.forge(0, 0, 0), 0, x);
        Due.done("38 forge(6, 1, 0), the last", x.forge(6, 1, 0), 1, x);
    }

    /** "(STATUS 1: .. n or k outside -100 .. 100)". */
    private static void numbersOutside() {
        HalfOrders x = Make.allKinds();
        x.row(2);
        x.row(2);
        for (int sheet = 0; sheet < 4; sheet++) {
            x.sheet(sheet, 1, 20);
        }
        for (int what = 0; what <= 6; what++) {
            for (int none : new int[] {-101, 101, 102, LEAST, LEAST + 1, MOST}) {
                Due.refused("38 forge(" + what + ", " + none + ", 0)", x.forge(what, none, 0), x, 1);
                Due.refused("38 forge(" + what + ", 1, " + none + ")", x.forge(what, 1, none), x, 1);
            }
            for (int some : new int[] {-100, -99, 99, 100}) {
                x.forge(what, some, 1);
                Due.due("38 forge(" + what + ", " + some + ", 1) is not refused by 1", x.status() == 1 ? 1 : 0, 0);
                x.forge(what, 1, some);
                Due.due("38 forge(" + what + ", 1, " + some + ") is not refused by 1", x.status() == 1 ? 1 : 0, 0);
            }
        }
        Due.done("38 forge(1, 100, 100)", x.forge(1, 100, 100), 100, x);
        Due.refused("38 forge(1, -100, -100)", x.forge(1, -100, -100), x, 13);
        Due.done("38 forge(5, -100, -100)", x.forge(5, -100, -100), -10, x);
        Due.done("38 forge(5, 100, 100)", x.forge(5, 100, 100), 10, x);
    }

    /** "Where several hold, the lowest": 1 ahead of what the host refuses. */
    private static void lowestStatus() {
        HalfOrders x = new HalfOrders();
        Due.refused("38 forge(0, 101, 0), no ORDER too", x.forge(0, 101, 0), x, 1);
        Due.refused("38 forge(1, -101, 0), below 0 too", x.forge(1, -101, 0), x, 1);
        Due.refused("38 forge(2, 101, 0), missing too", x.forge(2, 101, 0), x, 1);
        Due.refused("38 forge(3, -101, 0), missing too", x.forge(3, -101, 0), x, 1);
        Due.refused("38 forge(5, 0, 101), by 0 too", x.forge(5, 0, 101), x, 1);
        Due.refused("38 forge(6, 0, -101), none is there too", x.forge(6, 0, -101), x, 1);
        Due.refused("38 forge(7, 0, 0)", x.forge(7, 0, 0), x, 1);
        x.order(1);
        Due.refused("38 forge(4, 0, 0)", x.forge(4, 0, 0), x, 14);
        Due.refused("38 forge(4, 101, 0), does not fit too", x.forge(4, 101, 0), x, 1);
    }

    /** By row the ORDER's KIND, by column the one that it is taken for. */
    private static final int[][] FITS = {
        {1, 0, 0, 0, 0, 0}, {1, 1, 0, 0, 0, 0}, {1, 1, 1, 0, 0, 0},
        {1, 1, 1, 1, 0, 0}, {1, 0, 0, 0, 1, 0}, {1, 1, 0, 0, 0, 1}};

    /** "taken for one whose KIND is n modulo 6 .. or one under that one (also by others between)". */
    private static void takenForAKind() {
        HalfOrders x = Make.allKinds();
        for (int kind = 0; kind < 6; kind++) {
            for (int asked = 0; asked < 6; asked++) {
                String call = "38 forge(0, " + asked + ", " + kind + ")";
                if (FITS[kind][asked] == 1) {
                    Due.done(call, x.forge(0, asked, kind), kind, x);
                } else {
                    Due.refused(call, x.forge(0, asked, kind), x, 11);
                }
            }
        }
    }

    /** "k modulo 8", "n modulo 6 (also for numbers below 0)": over the whole reach. */
    private static void kindsModuloSix() {
        HalfOrders x = Make.allKinds();
        for (int n = -100; n <= 100; n++) {
            boolean fits = FITS[3][modulo(n, 6)] == 1;
            Due.due("38 forge(0, " + n + ", 3)", x.forge(0, n, 3), fits ? 3 : -1);
            Due.due("38 forge(0, " + n + ", 3), status()", x.status(), fits ? 0 : 11);
        }
        HalfOrders y = Make.allKinds();
        for (int k = -100; k <= 100; k++) {
            boolean isThere = modulo(k, 8) < 6;
            Due.due("38 forge(0, 0, " + k + ")", y.forge(0, 0, k), isThere ? modulo(k, 8) : -1);
            Due.due("38 forge(0, 0, " + k + "), status()", y.status(), isThere ? 0 : 10);
        }
    }

    /** "10 (there is no such ORDER)": whatever KIND it is taken for. */
    private static void noSuchOrderToTake() {
        for (int many = 0; many <= 8; many++) {
            HalfOrders x = Make.orders(many, 1);
            for (int k = 0; k < 8; k++) {
                if (k < many) {
                    Due.done("38 forge(0, 0, " + k + ") of " + many, x.forge(0, 0, k), 0, x);
                    Due.refused("38 forge(0, 5, " + k + ") of " + many, x.forge(0, 5, k), x, 11);
                } else {
                    Due.refused("38 forge(0, 0, " + k + ") of " + many, x.forge(0, 0, k), x, 10);
                    Due.refused("38 forge(0, 5, " + k + ") of " + many, x.forge(0, 5, k), x, 10);
                }
            }
        }
    }

    /** "a row of n numbers is made: 13; answers n." */
    private static void rowsThatAreMade() {
        HalfOrders x = new HalfOrders();
        for (int n = -100; n < 0; n++) {
            Due.refused("38 forge(1, " + n + ", 0)", x.forge(1, n, 0), x, 13);
        }
        for (int n = 0; n <= 100; n++) {
            Due.done("38 forge(1, " + n + ", 0)", x.forge(1, n, 0), n, x);
        }
    }

    /** "taken for one of sort 1: 11; its number n: 10, 12; answers it." */
    private static void shortsThatAreTaken() {
        HalfOrders x = new HalfOrders();
        for (int n : new int[] {-1, 0, 1}) {
            Due.refused("38 forge(2, " + n + ", 0), missing", x.forge(2, n, 0), x, 10);
        }
        Make.sheet(x, 0, 1, 4, 5, 100);
        Due.done("38 forge(2, 0, 0), the first", x.forge(2, 0, 0), 4, x);
        Due.done("38 forge(2, 2, 0), the last", x.forge(2, 2, 0), 100, x);
        for (int n : new int[] {-100, -1, 3, 4, 100}) {
            Due.refused("38 forge(2, " + n + ", 0)", x.forge(2, n, 0), x, 12);
        }
        x.sheet(0, 1, 0);
        Due.refused("38 forge(2, 0, 0), no numbers", x.forge(2, 0, 0), x, 12);
        x.sheet(0, 1, 20);
        Due.done("38 forge(2, 19, 0), the last of twenty", x.forge(2, 19, 0), 0, x);
        Due.refused("38 forge(2, 20, 0), behind the last of twenty", x.forge(2, 20, 0), x, 12);
        for (int sort : new int[] {0, 2}) {
            x.sheet(0, sort, 3);
            Due.refused("38 forge(2, 0, 0), of sort " + sort, x.forge(2, 0, 0), x, 11);
            Due.refused("38 forge(2, 3, 0), of sort " + sort + ", outside too", x.forge(2, 3, 0), x, 11);
            Due.refused("38 forge(2, -1, 0), of sort " + sort + ", outside too", x.forge(2, -1, 0), x, 11);
        }
    }

    /** "SHEET k modulo 4": over the whole reach, also below 0. */
    private static void sheetsModuloFour() {
        HalfOrders x = new HalfOrders();
        HalfOrders y = new HalfOrders();
        for (int sheet = 0; sheet < 4; sheet++) {
            Make.sheet(x, sheet, 1, 10 + sheet);
            Make.sheet(y, sheet, 0, 0, 20 + sheet);
        }
        for (int k = -100; k <= 100; k++) {
            Due.done("38 forge(2, 0, " + k + ")", x.forge(2, 0, k), 10 + modulo(k, 4), x);
            Due.done("38 forge(3, 1, " + k + ")", y.forge(3, 1, k), 20 + modulo(k, 4), y);
        }
    }

    /** "from its number 1 on .. 12 (n below 0, or they do not stand there ..)". */
    private static void copiesOfMoreThanThereAre() {
        HalfOrders x = new HalfOrders();
        for (int size = 1; size <= 4; size++) {
            Make.sheet(x, 0, 0, 100, 1, 2, 4, 8);
            x.sheet(0, 0, size);
            for (int i = 0; i < size; i++) {
                x.cell(0, i, i == 0 ? 100 : 1 << (i - 1));
            }
            Due.done("38 forge(3, size - 1, 0), up to the last", x.forge(3, size - 1, 0), (1 << (size - 1)) - 1, x);
            Due.refused("38 forge(3, size, 0), one too many", x.forge(3, size, 0), x, 12);
        }
        for (int n : new int[] {-1, -2, -100}) {
            Due.refused("38 forge(3, " + n + ", 0), below 0", x.forge(3, n, 0), x, 12);
        }
    }

    /** "copied to a row of 6 from place n on .. in both": three from place 3 on fill it. */
    private static void copiesBeyondTheRowOfSix() {
        HalfOrders x = new HalfOrders();
        Make.sheet(x, 1, 0, 50, 1, 2, 4, 8, 16, 32, 64);
        int[] sums = {0, 1, 3, 7};
        for (int n = 0; n < sums.length; n++) {
            Due.done("38 forge(3, " + n + ", 1)", x.forge(3, n, 1), sums[n], x);
        }
        x.sheet(2, 0, 20);
        for (int n : new int[] {4, 5, 6, 7, 19, 20, 100}) {
            Due.refused("38 forge(3, " + n + ", 1)", x.forge(3, n, 1), x, 12);
            Due.refused("38 forge(3, " + n + ", 2)", x.forge(3, n, 2), x, 12);
        }
        Due.done("38 forge(3, 3, 2)", x.forge(3, 3, 2), 0, x);
    }

    /** "also if it has no numbers at all". */
    private static void copiesOfNone() {
        HalfOrders x = new HalfOrders();
        x.sheet(0, 0, 0);
        Due.refused("38 forge(3, 0, 0), no numbers", x.forge(3, 0, 0), x, 12);
        Due.refused("38 forge(3, 1, 0), no numbers", x.forge(3, 1, 0), x, 12);
        Due.refused("38 forge(3, -1, 0), no numbers", x.forge(3, -1, 0), x, 12);
        Make.sheet(x, 0, 0, 9);
        Due.done("38 forge(3, 0, 0), one number", x.forge(3, 0, 0), 0, x);
        Due.refused("38 forge(3, 1, 0), one number", x.forge(3, 1, 0), x, 12);
    }

    /** "taken for one of sort 0 (11) .. 10, 12": the lowest of them. */
    private static void copiesOfAnotherSort() {
        HalfOrders x = new HalfOrders();
        for (int n : new int[] {-1, 0, 1, 4}) {
            Due.refused("38 forge(3, " + n + ", 3), missing", x.forge(3, n, 3), x, 10);
        }
        for (int sort = 1; sort <= 2; sort++) {
            Make.sheet(x, 3, sort, 1, 2, 3);
            for (int n : new int[] {-1, 0, 1, 2, 3, 4}) {
                Due.refused("38 forge(3, " + n + ", 3), of sort " + sort, x.forge(3, n, 3), x, 11);
            }
            x.sheet(3, sort, 0);
            Due.refused("38 forge(3, 0, 3), no numbers, of sort " + sort, x.forge(3, 0, 3), x, 11);
        }
    }

    /** "a row that takes STACKS and what is under them: 14; answers its KIND (0: there is no such)". */
    private static void putAmongStacks() {
        HalfOrders x = Make.allKinds();
        int[] due = {-1, 1, 2, 3, -1, 5, 0, 0};
        for (int k = -100; k <= 100; k++) {
            int kind = due[modulo(k, 8)];
            Due.due("38 forge(4, 0, " + k + ")", x.forge(4, 0, k), kind);
            Due.due("38 forge(4, 0, " + k + "), status()", x.status(), kind == -1 ? 14 : 0);
        }
        HalfOrders none = new HalfOrders();
        for (int k = 0; k < 8; k++) {
            Due.done("38 forge(4, 0, " + k + "), no ORDERS", none.forge(4, 0, k), 0, none);
        }
        Due.done("38 forge(4, -100, 1), n does not matter", x.forge(4, -100, 1), 1, x);
    }

    /** "1000 is divided by n: 15." */
    private static void dividedByNought() {
        HalfOrders x = new HalfOrders();
        Due.refused("38 forge(5, 0, 0)", x.forge(5, 0, 0), x, 15);
        for (int n = -100; n <= 100; n++) {
            if (n != 0) {
                int due = (n < 0 ? -1 : 1) * (1000 / Math.abs(n));
                Due.done("38 forge(5, " + n + ", 0)", x.forge(5, n, 0), due, x);
            }
        }
        Due.done("38 forge(5, 1, 0)", x.forge(5, 1, 0), 1000, x);
        Due.done("38 forge(5, -1, 0)", x.forge(5, -1, 0), -1000, x);
    }

    /** "n modulo 2 is 0: none is there: 10; 1: one that is caught at once; answers 1." */
    private static void failuresThatAreThrown() {
        HalfOrders x = new HalfOrders();
        for (int n = -100; n <= 100; n++) {
            if (modulo(n, 2) == 0) {
                Due.refused("38 forge(6, " + n + ", 0)", x.forge(6, n, 0), x, 10);
            } else {
                Due.done("38 forge(6, " + n + ", 0)", x.forge(6, n, 0), 1, x);
            }
        }
    }
}
