/** Each boundary case that the Terms and promises 35 to 37 name, under the sentence that names it. */
public final class EdgesOfSheetsTest {
    private static final int LEAST = Integer.MIN_VALUE;
    private static final int MOST = Integer.MAX_VALUE;

    private EdgesOfSheetsTest() {
    }

    public static void main(String[] args) {
        sheetsOutside();
        sortsOutside();
        sizesOutside();
        missingFromNowOn();
        allNumbersAreNought();
        smallerThanBefore();
        refusedSheetStays();
        cellsOfNoSheet();
        numbersOutside();
        placesOutside();
        lowestStatusOfCell();
        pairsOutside();
        pairsOfAnotherKind();
        pairsOfAMissingSheet();
        pairsOfAnotherSort();
        pairsThatAreNotSoMany();
        pairsInThisOrder();
        noPairsAtAll();
        tenPairs();
        tillOneIsRefused();
        whatWasToldStays();
        Due.end();
    }

    /** "SHEETS 0 .. 3". */
    private static void sheetsOutside() {
        HalfOrders x = new HalfOrders();
        for (int none : new int[] {-1, 4, 5, LEAST, MOST}) {
            Due.refused("35 sheet(" + none + ", 0, 1)", x.sheet(none, 0, 1), x, 1);
            Due.refused("35 sheet(" + none + ", -1, 1)", x.sheet(none, -1, 1), x, 1);
        }
        for (int sheet = 0; sheet < 4; sheet++) {
            Due.refused("36 cell(" + sheet + ", 0, 1), still missing", x.cell(sheet, 0, 1), x, 10);
            Due.done("35 sheet(" + sheet + ", 0, 1)", x.sheet(sheet, 0, 1), 1, x);
            Due.done("36 cell(" + sheet + ", 0, 1)", x.cell(sheet, 0, 1), 1, x);
        }
    }

    /** "of a sort (0 .. 2)"; "sort -1: it is missing". */
    private static void sortsOutside() {
        HalfOrders x = Make.orders(1, 2);
        for (int none : new int[] {-2, 3, 4, LEAST, MOST}) {
            Due.refused("35 sheet(0, " + none + ", 2)", x.sheet(0, none, 2), x, 1);
        }
        Due.refused("36 cell(0, 0, 1), still missing", x.cell(0, 0, 1), x, 10);
        for (int sort = 0; sort <= 2; sort++) {
            Due.done("35 sheet(0, " + sort + ", 2)", x.sheet(0, sort, 2), 1, x);
            for (int asked = 0; asked <= 2; asked++) {
                long got = x.pairs(0, 0, asked, 1);
                if (asked == sort) {
                    Due.done("37 pairs(0, 0, " + asked + ", 1)", got, 0, x);
                } else {
                    Due.refused("37 pairs(0, 0, " + asked + ", 1)", got, x, 11);
                }
            }
        }
        Due.done("35 sheet(0, -1, 2)", x.sheet(0, -1, 2), 1, x);
        Due.refused("36 cell(0, 0, 1), missing", x.cell(0, 0, 1), x, 10);
    }

    /** "with n (0 .. 20) numbers". */
    private static void sizesOutside() {
        HalfOrders x = new HalfOrders();
        for (int sort = 0; sort <= 2; sort++) {
            for (int none : new int[] {-1, 21, 22, LEAST, MOST}) {
                Due.refused("35 sheet(0, " + sort + ", " + none + ")", x.sheet(0, sort, none), x, 1);
            }
            Due.refused("36 cell(0, 0, 1), still missing", x.cell(0, 0, 1), x, 10);
            Due.done("35 sheet(1, " + sort + ", 0)", x.sheet(1, sort, 0), 1, x);
            Due.refused("36 cell(1, 0, 1), no numbers", x.cell(1, 0, 1), x, 12);
            Due.done("35 sheet(1, " + sort + ", 1)", x.sheet(1, sort, 1), 1, x);
            Due.done("36 cell(1, 0, 1), one number", x.cell(1, 0, 1), 1, x);
            Due.refused("36 cell(1, 1, 1), one number", x.cell(1, 1, 1), x, 12);
            Due.done("35 sheet(1, " + sort + ", 20)", x.sheet(1, sort, 20), 1, x);
            Due.done("36 cell(1, 19, 1), twenty numbers", x.cell(1, 19, 1), 1, x);
            Due.refused("36 cell(1, 20, 1), twenty numbers", x.cell(1, 20, 1), x, 12);
        }
    }

    /** "sort -1: it is missing from now on (n does not matter). Answers 1." */
    private static void missingFromNowOn() {
        HalfOrders x = new HalfOrders();
        for (int n : new int[] {-1, 0, 20, 21, LEAST, MOST}) {
            Make.sheet(x, 2, 1, 8, 9);
            Due.done("35 sheet(2, -1, " + n + ")", x.sheet(2, -1, n), 1, x);
            Due.refused("36 cell(2, 0, 1), missing", x.cell(2, 0, 1), x, 10);
            Due.refused("38 forge(2, 0, 2), missing", x.forge(2, 0, 2), x, 10);
            Due.done("35 sheet(2, -1, " + n + "), missing already", x.sheet(2, -1, n), 1, x);
        }
        Due.done("35 sheet(2, 1, 2), anew", x.sheet(2, 1, 2), 1, x);
        Due.done("38 forge(2, 0, 2)", x.forge(2, 0, 2), 0, x);
        Due.done("38 forge(2, 1, 2)", x.forge(2, 1, 2), 0, x);
    }

    /** "with n (0 .. 20) numbers, all 0": also one that had others. */
    private static void allNumbersAreNought() {
        HalfOrders x = new HalfOrders();
        for (int turn = 0; turn < 2; turn++) {
            Due.done("35 sheet(3, 1, 20)", x.sheet(3, 1, 20), 1, x);
            for (int i = 0; i < 20; i++) {
                Due.done("38 forge(2, " + i + ", 3)", x.forge(2, i, 3), 0, x);
                Due.done("36 cell(3, " + i + ", ..)", x.cell(3, i, 1 + i), 1, x);
                Due.done("38 forge(2, " + i + ", 3)", x.forge(2, i, 3), 1 + i, x);
            }
        }
    }

    private static void smallerThanBefore() {
        HalfOrders x = new HalfOrders();
        Make.sheet(x, 0, 1, 5, 6, 7);
        Due.done("35 sheet(0, 1, 2)", x.sheet(0, 1, 2), 1, x);
        Due.refused("38 forge(2, 2, 0), no place any more", x.forge(2, 2, 0), x, 12);
        Due.refused("36 cell(0, 2, 1), no place any more", x.cell(0, 2, 1), x, 12);
        Due.done("35 sheet(0, 1, 3)", x.sheet(0, 1, 3), 1, x);
        Due.done("38 forge(2, 2, 0), 0 again", x.forge(2, 2, 0), 0, x);
    }

    /** "Such calls answer -1 and change nothing else": the SHEET that was there stays. */
    private static void refusedSheetStays() {
        HalfOrders x = new HalfOrders();
        Make.sheet(x, 1, 1, 4, 5);
        Due.refused("35 sheet(1, 0, 21)", x.sheet(1, 0, 21), x, 1);
        Due.refused("35 sheet(1, 3, 1)", x.sheet(1, 3, 1), x, 1);
        Due.refused("35 sheet(1, -2, 1)", x.sheet(1, -2, 1), x, 1);
        Due.refused("36 cell(1, 0, 101)", x.cell(1, 0, 101), x, 1);
        Due.refused("36 cell(1, 2, 9)", x.cell(1, 2, 9), x, 12);
        Due.done("38 forge(2, 0, 1)", x.forge(2, 0, 1), 4, x);
        Due.done("38 forge(2, 1, 1)", x.forge(2, 1, 1), 5, x);
        Due.refused("38 forge(2, 2, 1)", x.forge(2, 2, 1), x, 12);
    }

    /** "cell .. STATUS 1 .. 10": no such SHEET, a missing one. */
    private static void cellsOfNoSheet() {
        HalfOrders x = new HalfOrders();
        for (int none : new int[] {-1, 4, 5, LEAST, MOST}) {
            Due.refused("36 cell(" + none + ", 0, 1)", x.cell(none, 0, 1), x, 1);
        }
        for (int sheet = 0; sheet < 4; sheet++) {
            Due.refused("36 cell(" + sheet + ", 0, 1)", x.cell(sheet, 0, 1), x, 10);
        }
    }

    /** "becomes v (0 .. 100)". */
    private static void numbersOutside() {
        HalfOrders x = Make.orders(1, 10);
        for (int sort = 0; sort <= 2; sort++) {
            x.sheet(0, sort, 2);
            for (int none : new int[] {-1, 101, 128, 256, LEAST, MOST}) {
                Due.refused("36 cell(0, 0, " + none + ")", x.cell(0, 0, none), x, 1);
            }
            Due.done("36 cell(0, 0, 100)", x.cell(0, 0, 100), 1, x);
            Due.done("37 pairs: 100 is no THING", x.pairs(0, 0, sort, 1), 0, x);
            Due.done("36 cell(0, 0, 0)", x.cell(0, 0, 0), 1, x);
            Due.done("36 cell(0, 1, 9)", x.cell(0, 1, 9), 1, x);
            Due.done("37 pairs: 0 and 9 are", x.pairs(0, 0, sort, 1), 1, x);
        }
        x.sheet(1, 1, 1);
        x.cell(1, 0, 100);
        Due.done("38 forge(2, 0, 1)", x.forge(2, 0, 1), 100, x);
    }

    /** "cell .. STATUS .. 12": a place outside, also one below 0. */
    private static void placesOutside() {
        HalfOrders x = new HalfOrders();
        for (int n : new int[] {0, 1, 7, 20}) {
            x.sheet(0, 1, n);
            for (int i : new int[] {-1, n, n + 1, 20, LEAST, MOST}) {
                Due.refused("36 cell(0, " + i + ", 1) of " + n, x.cell(0, i, 1), x, 12);
            }
            if (n > 0) {
                Due.done("36 cell(0, n - 1, 1) of " + n, x.cell(0, n - 1, 1), 1, x);
                Due.done("36 cell(0, 0, 1) of " + n, x.cell(0, 0, 1), 1, x);
            }
        }
    }

    /** "Where several hold, the lowest." */
    private static void lowestStatusOfCell() {
        HalfOrders x = new HalfOrders();
        x.sheet(1, 0, 2);
        Due.refused("36 cell(0, 0, 101), missing too", x.cell(0, 0, 101), x, 1);
        Due.refused("36 cell(0, 0, -1), missing too", x.cell(0, 0, -1), x, 1);
        Due.refused("36 cell(0, -1, 1), missing and outside", x.cell(0, -1, 1), x, 10);
        Due.refused("36 cell(0, 2, 1), missing and outside", x.cell(0, 2, 1), x, 10);
        Due.refused("36 cell(1, 2, 101), outside too", x.cell(1, 2, 101), x, 1);
        Due.refused("36 cell(1, -1, -1), outside too", x.cell(1, -1, -1), x, 1);
        Due.refused("36 cell(4, 9, 101), all", x.cell(4, 9, 101), x, 1);
    }

    /** "STATUS 1 (no such ORDER, SHEET, sort, n)". */
    private static void pairsOutside() {
        HalfOrders x = Make.orders(1, 3);
        Make.sheet(x, 3, 2, 0, 1);
        for (int none : new int[] {-1, 1, 8, LEAST, MOST}) {
            Due.refused("37 pairs(" + none + ", 3, 2, 1)", x.pairs(none, 3, 2, 1), x, 1);
            Due.refused("37 pairs(" + none + ", 3, 2, 0)", x.pairs(none, 3, 2, 0), x, 1);
        }
        for (int none : new int[] {-1, 4, LEAST, MOST}) {
            Due.refused("37 pairs(0, " + none + ", 2, 1)", x.pairs(0, none, 2, 1), x, 1);
            Due.refused("37 pairs(0, " + none + ", 2, 0)", x.pairs(0, none, 2, 0), x, 1);
        }
        for (int none : new int[] {-2, -1, 3, LEAST, MOST}) {
            Due.refused("37 pairs(0, 3, " + none + ", 1)", x.pairs(0, 3, none, 1), x, 1);
            Due.refused("37 pairs(0, 3, " + none + ", 0)", x.pairs(0, 3, none, 0), x, 1);
        }
        for (int none : new int[] {-1, 11, LEAST, MOST}) {
            Due.refused("37 pairs(0, 3, 2, " + none + ")", x.pairs(0, 3, 2, none), x, 1);
        }
        Due.refused("37 pairs(0, 0, -1, 1), a missing SHEET's sort", x.pairs(0, 0, -1, 1), x, 1);
        Due.due("37 told(0, 2), all refused", x.told(0, 2), 0);
        Due.done("37 pairs(0, 3, 2, 1)", x.pairs(0, 3, 2, 1), 1, x);
    }

    /** "3 (another KIND)". */
    private static void pairsOfAnotherKind() {
        HalfOrders x = Make.allKinds();
        Make.sheet(x, 0, 0, 0, 1);
        for (int order = 1; order < 6; order++) {
            int had = x.told(order, 2);
            Due.refused("37 pairs(" + order + ", 0, 0, 1)", x.pairs(order, 0, 0, 1), x, 3);
            Due.refused("37 pairs(" + order + ", 0, 0, 0)", x.pairs(order, 0, 0, 0), x, 3);
            Due.due("37 told(" + order + ", 2)", x.told(order, 2), had);
        }
        Due.done("37 pairs(0, 0, 0, 1)", x.pairs(0, 0, 0, 1), 1, x);
        x.dual(5);
        Due.done("37 pairs(6, 0, 0, 1), 1 is BELOW 0 there", x.pairs(6, 0, 0, 1), 0, x);
    }

    /** "10": the SHEET is missing. */
    private static void pairsOfAMissingSheet() {
        HalfOrders x = Make.orders(1, 3);
        for (int sheet = 0; sheet < 4; sheet++) {
            for (int sort = 0; sort <= 2; sort++) {
                Due.refused("37 pairs(0, " + sheet + ", " + sort + ", 1)", x.pairs(0, sheet, sort, 1), x, 10);
            }
        }
        Make.sheet(x, 1, 1, 0, 1);
        x.sheet(1, -1, 0);
        Due.refused("37 pairs(0, 1, 1, 1), missing again", x.pairs(0, 1, 1, 1), x, 10);
    }

    /** "11": the SHEET is of another sort. */
    private static void pairsOfAnotherSort() {
        for (int sort = 0; sort <= 2; sort++) {
            HalfOrders x = Make.orders(1, 3);
            Make.sheet(x, 0, sort, 0, 1);
            for (int asked = 0; asked <= 2; asked++) {
                if (asked != sort) {
                    Due.refused("37 pairs(0, 0, " + asked + ", 1)", x.pairs(0, 0, asked, 1), x, 11);
                }
            }
            Due.due("37 told(0, 2)", x.told(0, 2), 0);
            Due.done("37 pairs(0, 0, " + sort + ", 1)", x.pairs(0, 0, sort, 1), 1, x);
        }
    }

    /** "12 (there are not so many)": half a pair is none; nothing is told then. */
    private static void pairsThatAreNotSoMany() {
        HalfOrders x = Make.orders(1, 10);
        for (int size = 0; size <= 20; size++) {
            x.sheet(0, 0, size);
            int most = size / 2;
            if (most < 10) {
                Due.refused("37 pairs, one too many of " + size, x.pairs(0, 0, 0, most + 1), x, 12);
            }
            Due.done("37 pairs, as many as there are of " + size, x.pairs(0, 0, 0, most), 0, x);
        }
        Make.sheet(x, 1, 2, 0, 1, 1, 2, 2);
        Due.refused("37 pairs(0, 1, 2, 3), half a pair", x.pairs(0, 1, 2, 3), x, 12);
        Due.due("37 told(0, 2), nothing was told", x.told(0, 2), 0);
        Due.done("37 pairs(0, 1, 2, 2)", x.pairs(0, 1, 2, 2), 2, x);
        Make.sheet(x, 1, 2, 5, 5);
        Due.refused("37 pairs(0, 1, 2, 2), the first would be refused", x.pairs(0, 1, 2, 2), x, 12);
    }

    /** "these in this order". */
    private static void pairsInThisOrder() {
        HalfOrders x = Make.orders(1, 3);
        x.row(3);
        x.sheet(1, 1, 3);
        Due.refused("37 1 ahead of 3: n", x.pairs(1, 0, 0, 11), x, 1);
        Due.refused("37 1 ahead of 3: sort", x.pairs(1, 0, 3, 1), x, 1);
        Due.refused("37 1 ahead of 3: SHEET", x.pairs(1, 4, 0, 1), x, 1);
        Due.refused("37 1 ahead of 10", x.pairs(0, 0, 3, 1), x, 1);
        Due.refused("37 1 ahead of 11", x.pairs(0, 1, 0, 11), x, 1);
        Due.refused("37 1 ahead of 12", x.pairs(0, 1, 1, 11), x, 1);
        Due.refused("37 3 ahead of 10", x.pairs(1, 0, 0, 1), x, 3);
        Due.refused("37 3 ahead of 11", x.pairs(1, 1, 0, 1), x, 3);
        Due.refused("37 3 ahead of 12", x.pairs(1, 1, 1, 2), x, 3);
        Due.refused("37 10 ahead of 12", x.pairs(0, 0, 1, 10), x, 10);
        Due.refused("37 11 ahead of 12", x.pairs(0, 1, 0, 2), x, 11);
        Due.refused("37 12", x.pairs(0, 1, 1, 2), x, 12);
    }

    /** "(n = 0: nothing is taken.)" */
    private static void noPairsAtAll() {
        HalfOrders x = Make.orders(1, 3);
        x.order(0);
        x.sheet(1, 1, 0);
        Make.sheet(x, 2, 2, 0, 1);
        Due.done("37 pairs(0, 0, 0, 0), missing", x.pairs(0, 0, 0, 0), 0, x);
        Due.done("37 pairs(0, 1, 0, 0), another sort", x.pairs(0, 1, 0, 0), 0, x);
        Due.done("37 pairs(0, 1, 1, 0), no numbers", x.pairs(0, 1, 1, 0), 0, x);
        Due.done("37 pairs(0, 2, 2, 0)", x.pairs(0, 2, 2, 0), 0, x);
        Due.done("37 pairs(1, 2, 2, 0), no THINGS", x.pairs(1, 2, 2, 0), 0, x);
        Due.due("37 told(0, 2), nothing was told", x.told(0, 2), 0);
        Due.done("37 pairs(1, 2, 2, 1), no THINGS", x.pairs(1, 2, 2, 1), 0, x);
    }

    /** "n pairs in all (0 .. 10)". */
    private static void tenPairs() {
        HalfOrders x = Make.orders(1, 10);
        Make.sheet(x, 0, 1, 9, 8, 8, 7, 7, 6, 6, 5, 5, 4, 4, 3, 3, 2, 2, 1, 1, 0, 9, 0);
        Due.done("37 pairs(0, 0, 1, 9)", x.pairs(0, 0, 1, 9), 9, x);
        Due.due("37 told(0, 2)", x.told(0, 2), 45);
        Due.done("37 pairs(0, 0, 1, 10), all so already", x.pairs(0, 0, 1, 10), 10, x);
        Due.refused("37 pairs(0, 0, 1, 11)", x.pairs(0, 0, 1, 11), x, 1);
        x.cell(0, 18, 0);
        x.cell(0, 19, 9);
        Due.done("37 pairs(0, 0, 1, 10), the last refused by 3", x.pairs(0, 0, 1, 10), 9, x);
        x.cell(0, 19, 0);
        Due.done("37 pairs(0, 0, 1, 10), the last refused by 1", x.pairs(0, 0, 1, 10), 9, x);
    }

    /** "till one is refused by 1 or 3 there .. how many were not refused, STATUS 0". */
    private static void tillOneIsRefused() {
        int[][] refused = {{2, 2}, {3, 0}, {0, 3}, {100, 1}, {1, 100}, {1, 0}};
        for (int[] two : refused) {
            for (int at = 0; at < 3; at++) {
                HalfOrders x = Make.told(3, 0, 1);
                Make.sheet(x, 0, 0, 0, 1, 0, 1, 0, 1, 1, 2);
                x.cell(0, 2 * at, two[0]);
                x.cell(0, 2 * at + 1, two[1]);
                String call = "37 pairs, " + two[0] + " and " + two[1] + " at " + at;
                Due.done(call, x.pairs(0, 0, 0, 4), at, x);
                Due.due(call + ", none behind it is told", x.told(0, 2), 1);
            }
        }
    }

    /** "what was told stays". */
    private static void whatWasToldStays() {
        HalfOrders x = Make.orders(1, 4);
        Make.sheet(x, 0, 2, 0, 1, 1, 2, 2, 0, 2, 3);
        Due.done("37 pairs(0, 0, 2, 4)", x.pairs(0, 0, 2, 4), 2, x);
        Due.due("37 below(0, 0, 2), with all that follows", x.below(0, 0, 2), 1);
        Due.due("37 below(0, 2, 3)", x.below(0, 2, 3), 0);
        Due.due("37 told(0, 2)", x.told(0, 2), 3);
        Due.done("3 pair(0, 0, 2), so already", x.pair(0, 0, 2), 0, x);
        Due.due("13 told(0, 7), counted anew", x.told(0, 7), 4);
    }
}
