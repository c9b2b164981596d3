/** Promise 4, each boundary case under the words that name it. */
public final class RoundTest {
    private interface Call {
        void on(HalfOrders x);
    }

    private RoundTest() {
    }

    public static void main(String[] args) {
        noneSuch();
        placesOutside();
        longestRow();
        shortestRow();
        leastThingWhereTheyDiffer();
        latestOne();
        behindOneThatWasDone();
        behindDrop();
        staysBehindAllElse();
        staysBehindPairs();
        Due.end();
    }

    private static void roundIs(String when, HalfOrders x, int... due) {
        for (int i = 0; i < due.length; i++) {
            Due.due("4 round(" + i + ") " + when, x.round(i), due[i]);
        }
        for (int i = due.length; i <= 11; i++) {
            Due.due("4 round(" + i + ") " + when, x.round(i), -1);
        }
        Due.due("4 round(-1) " + when, x.round(-1), -1);
    }

    /** "-1: none such". */
    private static void noneSuch() {
        HalfOrders x = new HalfOrders();
        roundIs("of a new object", x);
        x.order(3);
        Due.refused("3 pair(0, 1, 1)", x.pair(0, 1, 1), x, 1);
        roundIs("behind STATUS 1", x);
        x.row(3);
        Due.refused("3 pair(1, 0, 1)", x.pair(1, 0, 1), x, 3);
        roundIs("behind another KIND", x);
    }

    private static void placesOutside() {
        HalfOrders x = Make.told(2, 1, 0);
        Due.refused("3 pair(0, 0, 1)", x.pair(0, 0, 1), x, 3);
        roundIs("of two", x, 1, 0);
        Due.due("4 round(least)", x.round(Integer.MIN_VALUE), -1);
        Due.due("4 round(most)", x.round(Integer.MAX_VALUE), -1);
    }

    /** Ten THINGS are the most that a row can have. */
    private static void longestRow() {
        HalfOrders x = Make.told(10, 9, 8, 8, 7, 7, 6, 6, 5, 5, 4, 4, 3, 3, 2, 2, 1, 1, 0);
        Due.refused("3 pair(0, 0, 9)", x.pair(0, 0, 9), x, 3);
        roundIs("of ten", x, 9, 8, 7, 6, 5, 4, 3, 2, 1, 0);
    }

    /** "the shortest row of THINGS from b to a, each NEXT to the one behind it". */
    private static void shortestRow() {
        // From 0 to 9 by 1, 2 and 3, or by 7 and 8; 0 is BELOW 9, but not NEXT to it.
        HalfOrders x = Make.told(10, 0, 9);
        Due.refused("3 pair(0, 9, 0)", x.pair(0, 9, 0), x, 3);
        roundIs("as long as 0 is NEXT to 9", x, 0, 9);
        Make.tell(x, 0, 0, 1, 1, 2, 2, 3, 3, 9, 0, 7, 7, 8, 8, 9);
        Due.refused("3 pair(0, 9, 0)", x.pair(0, 9, 0), x, 3);
        roundIs("by the shorter way", x, 0, 7, 8, 9);
        Due.refused("3 pair(0, 9, 1)", x.pair(0, 9, 1), x, 3);
        roundIs("by the only way", x, 1, 2, 3, 9);
        HalfOrders through = Make.told(4, 1, 0, 0, 2, 2, 3);
        Due.refused("3 pair(0, 3, 1)", through.pair(0, 3, 1), through, 3);
        roundIs("through the first THING", through, 1, 0, 2, 3);
    }

    /** "of several the one with the least THING at the first place at which they differ". */
    private static void leastThingWhereTheyDiffer() {
        // From 0 to 7: 0 2 6 7, 0 3 1 7, 0 3 5 7.
        HalfOrders x = Make.told(8, 0, 3, 3, 1, 1, 7, 3, 5, 5, 7);
        Due.refused("3 pair(0, 7, 0)", x.pair(0, 7, 0), x, 3);
        roundIs("by the lesser third THING", x, 0, 3, 1, 7);
        Make.tell(x, 0, 0, 2, 2, 6, 6, 7);
        Due.refused("3 pair(0, 7, 0)", x.pair(0, 7, 0), x, 3);
        roundIs("by the lesser second THING", x, 0, 2, 6, 7);
    }

    /** "Of the latest pair() that had STATUS 3 since b is BELOW a". */
    private static void latestOne() {
        HalfOrders x = Make.told(5, 0, 1, 1, 2, 2, 3);
        x.order(2);
        Make.tell(x, 1, 1, 0);
        x.pair(0, 3, 0);
        roundIs("of four", x, 0, 1, 2, 3);
        x.pair(0, 2, 1);
        roundIs("of two behind four", x, 1, 2);
        x.pair(1, 0, 1);
        roundIs("of another ORDER", x, 1, 0);
    }

    /** "-1: .. (also behind another pair() that was done ..)". */
    private static void behindOneThatWasDone() {
        HalfOrders x = Make.told(4, 0, 1);
        x.order(2);
        x.pair(0, 1, 0);
        Due.done("3 pair(0, 2, 3), news", x.pair(0, 2, 3), 1, x);
        roundIs("behind news", x);
        x.pair(0, 1, 0);
        Due.done("3 pair(0, 0, 1), so already", x.pair(0, 0, 1), 0, x);
        roundIs("behind what was so already", x);
        x.pair(0, 1, 0);
        Due.done("3 pair(1, 0, 1), of another ORDER", x.pair(1, 0, 1), 1, x);
        roundIs("behind one of another ORDER", x);
    }

    /** "-1: .. (also behind .. drop())". */
    private static void behindDrop() {
        HalfOrders x = Make.told(2, 0, 1);
        x.order(2);
        x.pair(0, 1, 0);
        Due.done("12 drop(), of another ORDER", x.drop(), 1, x);
        roundIs("behind drop() of another ORDER", x);
        x.pair(0, 1, 0);
        roundIs("again", x, 0, 1);
        Due.done("12 drop()", x.drop(), 0, x);
        roundIs("behind drop()", x);
        Due.refused("12 drop(), none", x.drop(), x, 3);
        roundIs("behind drop() of none", x);
    }

    /** Only such a pair() and drop() change it. */
    private static void staysBehindAllElse() {
        Call[] calls = {
            x -> x.order(2), x -> x.order(11), x -> x.stack(0, 1), x -> x.stack(0, 9), x -> x.beside(0, 1),
            x -> x.times(0, 1), x -> x.held(0), x -> x.row(3), x -> x.dual(0), x -> x.part(0, 3), x -> x.part(0, 99),
            x -> x.lay(0, 1), x -> x.lay(0, 9), x -> x.clear(), x -> x.act(0, 3, 7), x -> x.act(0, 4, 7),
            x -> x.sheet(0, 1, 3), x -> x.sheet(0, 9, 3), x -> x.cell(0, 1, 1), x -> x.forge(0, 0, 0),
            x -> x.forge(5, 0, 0), x -> x.pair(0, 1, 1), x -> x.pair(0, 0, 3), x -> x.pair(9, 0, 1),
            x -> x.pair(1, 0, 1), x -> x.told(0, 12), x -> x.two(0, 1, 0), x -> x.rowOut(0, 0, 0), x -> x.same(0, 0, 0),
            x -> x.below(0, 2, 0), x -> x.unlike(0), x -> x.hand(0), x -> x.of(0, 0, 0), x -> x.status()};
        HalfOrders x = Make.told(3, 2, 1, 1, 0);
        x.row(3);
        Due.refused("3 pair(0, 0, 2)", x.pair(0, 0, 2), x, 3);
        for (int i = 0; i < calls.length; i++) {
            calls[i].on(x);
            roundIs("behind call " + i, x, 2, 1, 0);
        }
    }

    /** "round() stays as it was": whether its pairs are told, or refused by 1 or 3. */
    private static void staysBehindPairs() {
        HalfOrders x = Make.told(4, 0, 1);
        x.pair(0, 1, 0);
        Make.sheet(x, 0, 0, 0, 2, 2, 1, 1, 0);
        Due.done("37 pairs(0, 0, 0, 2)", x.pairs(0, 0, 0, 2), 2, x);
        Due.due("15 below(0, 0, 1), not NEXT any more", x.below(0, 0, 1), 1);
        roundIs("behind pairs() that told", x, 0, 1);
        Due.done("37 pairs(0, 0, 0, 3), by 3", x.pairs(0, 0, 0, 3), 2, x);
        roundIs("behind pairs() that stopped by 3", x, 0, 1);
        Make.sheet(x, 0, 0, 3, 3);
        Due.done("37 pairs(0, 0, 0, 1), by 1", x.pairs(0, 0, 0, 1), 0, x);
        roundIs("behind pairs() that stopped by 1", x, 0, 1);
        Due.done("37 pairs(0, 0, 0, 0)", x.pairs(0, 0, 0, 0), 0, x);
        Due.refused("37 pairs(0, 1, 0, 1)", x.pairs(0, 1, 0, 1), x, 10);
        roundIs("behind pairs() that was refused", x, 0, 1);
        HalfOrders none = Make.told(2, 0, 1);
        Make.sheet(none, 0, 0, 1, 0);
        Due.done("37 pairs(0, 0, 0, 1), by 3", none.pairs(0, 0, 0, 1), 0, none);
        roundIs("behind pairs() alone", none);
    }
}
