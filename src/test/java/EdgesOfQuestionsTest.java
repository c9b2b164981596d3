/** Each boundary case that the Terms and promises 13 to 28 name, under the sentence that names it. */
public final class EdgesOfQuestionsTest {
    private static final int LEAST = Integer.MIN_VALUE;
    private static final int MOST = Integer.MAX_VALUE;
    private static final int ROWS_OF_TEN = 3628800;

    private interface Question {
        long ask(HalfOrders x, int number);
    }

    private EdgesOfQuestionsTest() {
    }

    public static void main(String[] args) {
        noSuchOrder();
        noSuchThing();
        noSuchWhat();
        noThings();
        oneThing();
        tenThingsWithoutPairs();
        tenThingsInARow();
        latticeOfOneThingAtLeast();
        evenLattices();
        seriesOfFour();
        twoOfSix();
        jumpsBehindTheFirst();
        belowAndNext();
        widestOnes();
        chainsOfThings();
        layersOfThings();
        lowSetsOutside();
        ranksOutside();
        placesInARowOut();
        beforeOfOne();
        sumsOfPlaces();
        fairAtLeast();
        fairAtMost();
        fairOfNone();
        twoRowsThatAreOne();
        twoPlacesOutside();
        inverses();
        boundsOfOne();
        boundsOfNone();
        unevenOnes();
        bentOnes();
        sameOnes();
        Due.end();
    }

    /** "-1: no such", and what else stands for it: the ORDER. */
    private static void noSuchOrder() {
        Question[] questions = {
            (x, o) -> x.told(o, 0), (x, o) -> x.below(o, 0, 1), (x, o) -> x.widest(o), (x, o) -> x.of(o, 0, 0),
            (x, o) -> x.of(o, 0, 1), (x, o) -> x.low(o, 0), (x, o) -> x.rowOut(o, 0, 0), (x, o) -> x.before(o, 0, 1),
            (x, o) -> x.places(o, 0), (x, o) -> x.fair(o), (x, o) -> x.two(o, 0, 0), (x, o) -> x.two(o, 1, 0),
            (x, o) -> x.uneven(o), (x, o) -> x.bent(o), (x, o) -> x.same(o, 0, 0), (x, o) -> x.same(0, o, 0),
            (x, o) -> x.invert(o, 0, 0), (x, o) -> x.bound(o, 0, 0, 0), (x, o) -> x.bound(o, 0, 0, 1)};
        int[] due = {-1, -1, -1, -1, -1, -1, -1, -1, -1, -1, -1, -1, -1, -1, -1, -1, -1000000, -2, -2};
        for (int many : new int[] {0, 1, 8}) {
            HalfOrders x = Make.orders(many, 4);
            for (int order : new int[] {-1, many, many + 1, 8, LEAST, MOST}) {
                for (int i = 0; i < questions.length; i++) {
                    String call = "question " + i + " of ORDER " + order + " where there are " + many;
                    Due.due(call, questions[i].ask(x, order), due[i]);
                }
            }
        }
        HalfOrders x = Make.orders(8, 2);
        Due.due("13 told(7, 1), the last", x.told(7, 1), 2);
        Due.due("16 widest(7), the last", x.widest(7), 3);
        Due.due("28 same(7, 0, 1), the last", x.same(7, 0, 1), 1);
        Due.due("28 same(0, 7, 1), the last", x.same(0, 7, 1), 1);
    }

    /** "-1: no such", and what else stands for it: the THING. */
    private static void noSuchThing() {
        Question[] questions = {
            (x, t) -> x.below(0, t, 0), (x, t) -> x.below(0, 0, t), (x, t) -> x.of(0, t, 0), (x, t) -> x.of(0, t, 1),
            (x, t) -> x.before(0, t, 0), (x, t) -> x.before(0, 0, t), (x, t) -> x.places(0, t),
            (x, t) -> x.same(0, 0, t), (x, t) -> x.below(0, t, t), (x, t) -> x.before(0, t, t),
            (x, t) -> x.invert(0, t, 0), (x, t) -> x.invert(0, 0, t), (x, t) -> x.invert(0, t, t),
            (x, t) -> x.bound(0, t, 0, 0), (x, t) -> x.bound(0, 0, t, 0), (x, t) -> x.bound(0, t, 0, 1),
            (x, t) -> x.bound(0, 0, t, 1), (x, t) -> x.bound(0, t, t, 0)};
        int[] due = {
            -1, -1, -1, -1, -1, -1, -1, -1, -1, -1, -1000000, -1000000, -1000000, -2, -2, -2, -2, -2};
        for (int n : new int[] {1, 4, 10}) {
            HalfOrders x = Make.orders(1, n);
            for (int thing : new int[] {-1, n, n + 1, 31, 32, LEAST, MOST}) {
                for (int i = 0; i < questions.length; i++) {
                    String call = "question " + i + " of THING " + thing + " where there are " + n;
                    Due.due(call, questions[i].ask(x, thing), due[i]);
                }
            }
        }
        HalfOrders x = Make.told(10, 9, 0);
        Due.due("15 below(0, 9, 0), the last", x.below(0, 9, 0), 2);
        Due.due("17 of(0, 9, 0), the last", x.of(0, 9, 0), 0);
        Due.due("20 before(0, 9, 0), the last", x.before(0, 9, 0), ROWS_OF_TEN / 2);
        Due.due("24 invert(0, 9, 0), the last", x.invert(0, 9, 0), -1);
        Due.due("25 bound(0, 9, 0, 0), the last", x.bound(0, 9, 0, 0), 0);
        Due.due("28 same(0, 0, 9), the last", x.same(0, 0, 9), 9);
    }

    /** "-1: no such", "-1: another", and what else stands for it: what, which and way. */
    private static void noSuchWhat() {
        HalfOrders x = Make.told(2, 0, 1);
        x.lay(0, 0);
        x.act(0, 0, 0);
        for (int what : new int[] {-1, 13, 14, LEAST, MOST}) {
            Due.due("13 told(0, " + what + ")", x.told(0, what), -1);
        }
        Due.due("13 told(0, 0), the first", x.told(0, 0), 0);
        Due.due("13 told(0, 12), the last", x.told(0, 12), 1);
        for (int what : new int[] {-1, 4, 5, LEAST, MOST}) {
            Due.due("14 count(" + what + ")", x.count(what), -1);
        }
        Due.due("14 count(0), the first", x.count(0), 1);
        Due.due("14 count(3), the last", x.count(3), 1);
        for (int what : new int[] {-1, 2, 3, LEAST, MOST}) {
            Due.due("17 of(0, 1, " + what + ")", x.of(0, 1, what), -1);
            Due.due("23 two(0, " + what + ", 0)", x.two(0, what, 0), -1);
            Due.due("25 bound(0, 0, 1, " + what + ")", x.bound(0, 0, 1, what), -2);
        }
        Due.due("17 of(0, 1, 0), the first", x.of(0, 1, 0), 0);
        Due.due("17 of(0, 1, 1), the last", x.of(0, 1, 1), 1);
        Due.due("25 bound(0, 0, 1, 0), the first", x.bound(0, 0, 1, 0), 1);
        Due.due("25 bound(0, 0, 1, 1), the last", x.bound(0, 0, 1, 1), 0);
    }

    private static void toldIs(String of, HalfOrders x, int... due) {
        for (int what = 0; what < due.length; what++) {
            Due.due("13 told(0, " + what + ") of " + of, x.told(0, what), due[what]);
        }
    }

    /** "n 0": one ROW OUT and one LOW SET, both empty; no LATTICE; nothing that is not SERIES, or TWO. */
    private static void noThings() {
        HalfOrders x = Make.told(0);
        toldIs("no THINGS", x, 0, 0, 0, 0, 1, 0, 0, 1, 0, 0, 0, 1, 1);
        Due.due("15 below(0, 0, 0)", x.below(0, 0, 0), -1);
        Due.due("16 widest(0)", x.widest(0), 0);
        Due.due("17 of(0, 0, 0)", x.of(0, 0, 0), -1);
        Due.due("17 of(0, 0, 1)", x.of(0, 0, 1), -1);
        Due.due("18 low(0, 0)", x.low(0, 0), 0);
        Due.due("18 low(0, 1)", x.low(0, 1), -1);
        Due.due("19 rowOut(0, 0, 0)", x.rowOut(0, 0, 0), -1);
        Due.due("19 rowOut(0, 1, 0)", x.rowOut(0, 1, 0), -1);
        Due.due("20 before(0, 0, 1)", x.before(0, 0, 1), -1);
        Due.due("21 places(0, 0)", x.places(0, 0), -1);
        Due.due("22 fair(0)", x.fair(0), -1);
        Due.due("23 two(0, 0, 0)", x.two(0, 0, 0), -1);
        Due.due("23 two(0, 1, 0)", x.two(0, 1, 0), -1);
        Due.due("24 invert(0, 0, 0)", x.invert(0, 0, 0), -1000000);
        Due.due("25 bound(0, 0, 0, 0)", x.bound(0, 0, 0, 0), -2);
        Due.due("26 uneven(0)", x.uneven(0), -1);
        Due.due("27 bent(0)", x.bent(0), -1);
        Due.due("28 same(0, 0, 0)", x.same(0, 0, 0), -1);
    }

    private static void oneThing() {
        HalfOrders x = Make.told(1);
        toldIs("one THING", x, 0, 1, 0, 0, 2, 1, 1, 1, 0, 1, 1, 1, 1);
        Due.due("16 widest(0)", x.widest(0), 1);
        Due.due("17 of(0, 0, 0)", x.of(0, 0, 0), 0);
        Due.due("17 of(0, 0, 1)", x.of(0, 0, 1), 0);
        Due.due("18 low(0, 1)", x.low(0, 1), 1);
        Due.due("18 low(0, 2)", x.low(0, 2), -1);
        Due.due("19 rowOut(0, 0, 0)", x.rowOut(0, 0, 0), 0);
        Due.due("19 rowOut(0, 1, 0)", x.rowOut(0, 1, 0), -1);
        Due.due("21 places(0, 0)", x.places(0, 0), 0);
        Due.due("22 fair(0)", x.fair(0), -1);
        Due.due("23 two(0, 0, 0)", x.two(0, 0, 0), 0);
        Due.due("23 two(0, 1, 0)", x.two(0, 1, 0), 0);
        Due.due("26 uneven(0)", x.uneven(0), -1);
        Due.due("28 same(0, 0, 0)", x.same(0, 0, 0), 0);
    }

    /** The most LOW SETS, the greatest WIDTH, the most ROWS OUT and JUMPS. */
    private static void tenThingsWithoutPairs() {
        HalfOrders x = Make.told(10);
        toldIs("ten without pairs", x, 0, 10, 0, 0, 1024, 10, 1, ROWS_OF_TEN, 9, 0, 0, 1, 1);
        Due.due("16 widest(0)", x.widest(0), 1023);
        Due.due("22 fair(0)", x.fair(0), 1);
        for (int t = 0; t < 10; t++) {
            Due.due("17 of(0, " + t + ", 0)", x.of(0, t, 0), t);
            Due.due("17 of(0, " + t + ", 1)", x.of(0, t, 1), 0);
        }
    }

    /** The most pairs and the greatest HEIGHT. */
    private static void tenThingsInARow() {
        HalfOrders x = new HalfOrders();
        x.row(10);
        toldIs("a ROW of ten", x, 5, 10, 45, 9, 11, 1, 10, 1, 0, 1, 1, 1, 1);
        Due.due("16 widest(0)", x.widest(0), 1);
        for (int t = 0; t < 10; t++) {
            Due.due("17 of(0, " + t + ", 0)", x.of(0, t, 0), 0);
            Due.due("17 of(0, " + t + ", 1)", x.of(0, t, 1), t);
        }
    }

    /** "A LATTICE has an ABOVE and a MEET for any two THINGS, and one THING at least." */
    private static void latticeOfOneThingAtLeast() {
        HalfOrders x = Make.told(0);
        Due.due("13 told(0, 9), no THINGS", x.told(0, 9), 0);
        Due.due("13 told(0, 10), no THINGS", x.told(0, 10), 0);
        x.order(1);
        Due.due("13 told(1, 9), one THING", x.told(1, 9), 1);
        Due.due("13 told(1, 10), one THING", x.told(1, 10), 1);
        x.order(2);
        Due.due("13 told(2, 9), two without order", x.told(2, 9), 0);
        x.order(3);
        Make.tell(x, 3, 0, 1, 0, 2);
        Due.due("13 told(3, 9), an ABOVE lacks", x.told(3, 9), 0);
        x.order(3);
        Make.tell(x, 4, 1, 0, 2, 0);
        Due.due("13 told(4, 9), a MEET lacks", x.told(4, 9), 0);
        x.order(4);
        Make.tell(x, 5, 0, 1, 0, 2, 1, 3, 2, 3);
        Due.due("13 told(5, 9)", x.told(5, 9), 1);
        // 0 under 1 and 2, both of them under 3 and 4, these under 5: two upper ones, none of them the least.
        x.order(6);
        Make.tell(x, 6, 0, 1, 0, 2, 1, 3, 1, 4, 2, 3, 2, 4, 3, 5, 4, 5);
        Due.due("13 told(6, 9), two bounds", x.told(6, 9), 0);
        Due.due("25 bound(6, 1, 2, 0), two bounds", x.bound(6, 1, 2, 0), -1);
        Due.due("25 bound(6, 3, 4, 1), two bounds", x.bound(6, 3, 4, 1), -1);
    }

    private static void evenLattices() {
        HalfOrders x = Make.told(3);
        x.held(0);
        Due.due("13 told(1, 9), HELD", x.told(1, 9), 1);
        Due.due("13 told(1, 10), HELD", x.told(1, 10), 1);
        x.order(5);
        Make.tell(x, 2, 0, 1, 0, 2, 0, 3, 1, 4, 2, 4, 3, 4);
        Due.due("13 told(2, 9)", x.told(2, 9), 1);
        Due.due("13 told(2, 10)", x.told(2, 10), 0);
    }

    /** "no four THINGS": three are always SERIES, four are the first that need not be. */
    private static void seriesOfFour() {
        HalfOrders x = Make.told(3, 0, 2, 1, 2);
        Due.due("13 told(0, 11), three", x.told(0, 11), 1);
        x.order(4);
        Make.tell(x, 1, 0, 2, 1, 2, 1, 3);
        Due.due("13 told(1, 11), four", x.told(1, 11), 0);
        Make.tell(x, 1, 0, 3);
        Due.due("13 told(1, 11), one pair more", x.told(1, 11), 1);
        x.order(4);
        Make.tell(x, 2, 0, 2, 1, 2);
        Due.due("13 told(2, 11), one pair less", x.told(2, 11), 1);
        x.order(4);
        Make.tell(x, 3, 0, 2, 1, 3);
        Due.due("13 told(3, 11), the middle pair less", x.told(3, 11), 1);
        x.order(4);
        Make.tell(x, 4, 0, 2, 1, 2, 1, 3, 2, 3);
        Due.due("13 told(4, 11), the upper two in order", x.told(4, 11), 1);
        x.order(4);
        Make.tell(x, 5, 0, 2, 1, 2, 1, 3, 0, 1);
        Due.due("13 told(5, 11), the lower two in order", x.told(5, 11), 1);
    }

    /** "12 whether there are TWO": six THINGS are the fewest without TWO. */
    private static void twoOfSix() {
        int[] crown = {0, 4, 0, 5, 1, 3, 1, 5, 2, 3, 2, 4};
        HalfOrders x = Make.told(6, crown);
        Due.due("13 told(0, 12), six", x.told(0, 12), 0);
        for (int i = 0; i < 6; i++) {
            Due.due("23 two(0, 0, " + i + "), none", x.two(0, 0, i), -1);
            Due.due("23 two(0, 1, " + i + "), none", x.two(0, 1, i), -1);
        }
        x.part(0, 31);
        Due.due("13 told(1, 12), five of them", x.told(1, 12), 1);
        x.order(10);
        Make.tell(x, 2, crown);
        Due.due("13 told(2, 12), with four others", x.told(2, 12), 0);
        Make.tell(x, 0, 0, 3);
        Due.due("13 told(0, 12), one pair more", x.told(0, 12), 1);
    }

    /** "at how many places behind the first one". */
    private static void jumpsBehindTheFirst() {
        HalfOrders x = Make.told(2);
        Due.due("13 told(0, 8), one place behind the first", x.told(0, 8), 1);
        Make.tell(x, 0, 1, 0);
        Due.due("13 told(0, 8), no JUMP", x.told(0, 8), 0);
        x.order(5);
        Make.tell(x, 1, 0, 1, 2, 3);
        // 0 1, 2 3 and 4 in any turn.
        Due.due("13 told(1, 8)", x.told(1, 8), 2);
        x.order(4);
        Make.tell(x, 2, 0, 2, 1, 2, 1, 3);
        // 1 3 0 2 jumps behind 3 alone.
        Due.due("13 told(2, 8)", x.told(2, 8), 1);
        x.order(4);
        Make.tell(x, 3, 1, 0, 1, 2, 3, 2);
        // 1 0 3 2 jumps behind 0 alone.
        Due.due("13 told(3, 8)", x.told(3, 8), 1);
        x.order(3);
        Make.tell(x, 4, 2, 1);
        Due.due("13 told(4, 8)", x.told(4, 8), 1);
        x.order(3);
        Make.tell(x, 5, 0, 2, 1, 2);
        Due.due("13 told(5, 8)", x.told(5, 8), 1);
    }

    /** "2: a is NEXT to b; 1: BELOW, but not NEXT; 0: neither." */
    private static void belowAndNext() {
        HalfOrders x = Make.told(3, 0, 2);
        Due.due("15 below(0, 0, 2), NEXT", x.below(0, 0, 2), 2);
        Due.due("15 below(0, 2, 0)", x.below(0, 2, 0), 0);
        Due.due("15 below(0, 0, 1)", x.below(0, 0, 1), 0);
        Make.tell(x, 0, 0, 1);
        Due.due("15 below(0, 0, 2), still NEXT", x.below(0, 0, 2), 2);
        Make.tell(x, 0, 1, 2);
        Due.due("15 below(0, 0, 2), not NEXT any more", x.below(0, 0, 2), 1);
        Due.due("13 told(0, 3)", x.told(0, 3), 2);
        x.order(3);
        Make.tell(x, 1, 2, 1, 1, 0);
        Due.due("13 told(1, 3), NEXT to the first THING", x.told(1, 3), 2);
    }

    /** "of those, the one with the least first THING, then second one, and so on". */
    private static void widestOnes() {
        HalfOrders x = Make.told(4, 0, 1, 0, 2, 0, 3);
        Due.due("16 widest(0), without the least THING", x.widest(0), 14);
        x.order(4);
        Make.tell(x, 1, 0, 3, 1, 2);
        // {0, 1}, {0, 2}, {1, 3}, {2, 3}.
        Due.due("16 widest(1), the least second THING", x.widest(1), 3);
        x.order(10);
        Make.tell(x, 2, 0, 8, 1, 9);
        Due.due("16 widest(2), eight of ten", x.widest(2), 255);
        x.order(5);
        Make.tell(x, 3, 4, 0, 4, 1, 2, 0, 2, 1);
        // {0, 1, 3} and {2, 3, 4}.
        Due.due("16 widest(3), the least first THING", x.widest(3), 11);
        x.order(4);
        Make.tell(x, 4, 0, 1, 0, 2, 3, 1, 3, 2);
        // {0, 3} and {1, 2}: the bits of the first are more, its first THING is less.
        Due.due("16 widest(4), the least first THING", x.widest(4), 9);
    }

    /** "a way to put each THING into one of WIDTH CHAINS, which are numbered by their least THINGS". */
    private static void chainsOfThings() {
        HalfOrders x = Make.told(4, 0, 1, 0, 2, 3, 1);
        // 0 with 1 leaves 2 and 3 apart: three CHAINS where two are enough.
        int[] due = {0, 1, 0, 1};
        for (int t = 0; t < 4; t++) {
            Due.due("17 of(0, " + t + ", 0)", x.of(0, t, 0), due[t]);
        }
        x.order(4);
        Make.tell(x, 1, 3, 0, 2, 0, 3, 1, 2, 1);
        int[] first = {0, 1, 0, 1};
        for (int t = 0; t < 4; t++) {
            Due.due("17 of(1, " + t + ", 0), of two ways", x.of(1, t, 0), first[t]);
        }
    }

    /** "how many THINGS the greatest CHAIN has of which all are BELOW it". */
    private static void layersOfThings() {
        HalfOrders x = Make.told(6, 0, 5, 1, 2, 2, 3, 3, 5);
        int[] due = {0, 0, 1, 2, 0, 3};
        for (int t = 0; t < 6; t++) {
            Due.due("17 of(0, " + t + ", 1)", x.of(0, t, 1), due[t]);
        }
        Due.due("13 told(0, 6)", x.told(0, 6), 4);
        x.order(3);
        Make.tell(x, 1, 2, 1, 1, 0);
        for (int t = 0; t < 3; t++) {
            Due.due("17 of(1, " + t + ", 1), the first THING over all", x.of(1, t, 1), 2 - t);
        }
        Due.due("13 told(1, 6)", x.told(1, 6), 3);
    }

    /** "LOW SET i. -1: none such." */
    private static void lowSetsOutside() {
        HalfOrders x = Make.told(3, 2, 0);
        int[] due = {0, 2, 4, 5, 6, 7};
        for (int i = 0; i < due.length; i++) {
            Due.due("18 low(0, " + i + ")", x.low(0, i), due[i]);
        }
        for (int i : new int[] {-1, 6, 7, LEAST, MOST}) {
            Due.due("18 low(0, " + i + ")", x.low(0, i), -1);
        }
        x.order(10);
        Due.due("18 low(1, 1023), the last", x.low(1, 1023), 1023);
        Due.due("18 low(1, 1024)", x.low(1, 1024), -1);
        x.row(10);
        Due.due("18 low(2, 10), the last", x.low(2, 10), 1023);
        Due.due("18 low(2, 11)", x.low(2, 11), -1);
        Due.due("18 low(2, 9)", x.low(2, 9), 511);
    }

    /** "ROWS OUT are ranked from 0": ranks below 0, and COUNT and more, are none. */
    private static void ranksOutside() {
        HalfOrders x = Make.told(3, 2, 0);
        int[][] due = {{1, 2, 0}, {2, 0, 1}, {2, 1, 0}};
        for (int rank = 0; rank < due.length; rank++) {
            for (int i = 0; i < 3; i++) {
                Due.due("19 rowOut(0, " + rank + ", " + i + ")", x.rowOut(0, rank, i), due[rank][i]);
            }
        }
        for (int rank : new int[] {-1, 3, 4, LEAST, MOST}) {
            Due.due("19 rowOut(0, " + rank + ", 0)", x.rowOut(0, rank, 0), -1);
        }
        x.order(10);
        for (int i = 0; i < 10; i++) {
            Due.due("19 rowOut(1, 0, " + i + "), the first", x.rowOut(1, 0, i), i);
            Due.due("19 rowOut(1, last, " + i + ")", x.rowOut(1, ROWS_OF_TEN - 1, i), 9 - i);
            Due.due("19 rowOut(1, COUNT, " + i + ")", x.rowOut(1, ROWS_OF_TEN, i), -1);
        }
        x.row(10);
        Due.due("19 rowOut(2, 0, 9)", x.rowOut(2, 0, 9), 9);
        Due.due("19 rowOut(2, 1, 0)", x.rowOut(2, 1, 0), -1);
    }

    /** "The i-th THING of the ROW OUT": places below 0, and n and more, are none. */
    private static void placesInARowOut() {
        for (int n : new int[] {1, 4, 10}) {
            HalfOrders x = Make.orders(1, n);
            Due.due("19 rowOut(0, 0, 0)", x.rowOut(0, 0, 0), 0);
            Due.due("19 rowOut(0, 0, n - 1)", x.rowOut(0, 0, n - 1), n - 1);
            for (int i : new int[] {-1, n, n + 1, LEAST, MOST}) {
                Due.due("19 rowOut(0, 0, " + i + ")", x.rowOut(0, 0, i), -1);
            }
        }
        // A shorter ROW behind a longer one: the longer one's places are none.
        HalfOrders x = Make.orders(2, 10);
        x.order(2);
        Due.due("19 rowOut(1, 0, 9)", x.rowOut(1, 0, 9), 9);
        Due.due("19 rowOut(2, 0, 2)", x.rowOut(2, 0, 2), -1);
    }

    /** "-1: no such, or a = b." */
    private static void beforeOfOne() {
        HalfOrders x = Make.told(10, 0, 9);
        for (int t = 0; t < 10; t++) {
            Due.due("20 before(0, " + t + ", " + t + ")", x.before(0, t, t), -1);
        }
        Due.due("20 before(0, 0, 9), in all", x.before(0, 0, 9), ROWS_OF_TEN / 2);
        Due.due("20 before(0, 9, 0), in none", x.before(0, 9, 0), 0);
        x.order(2);
        Due.due("20 before(1, 0, 1)", x.before(1, 0, 1), 1);
        Due.due("20 before(1, 1, 0)", x.before(1, 1, 0), 1);
    }

    /** "The sum .. of the places of a THING (from 0)." */
    private static void sumsOfPlaces() {
        HalfOrders x = new HalfOrders();
        x.row(10);
        for (int t = 0; t < 10; t++) {
            Due.due("21 places(0, " + t + ")", x.places(0, t), t);
        }
        x.order(10);
        Due.due("21 places(1, 9)", x.places(1, 9), 45L * 362880);
        Due.due("21 places(1, 0)", x.places(1, 0), 45L * 362880);
        // The greatest sum: one THING behind nine others.
        x.order(9);
        x.order(1);
        x.stack(2, 3);
        x.stack(3, 2);
        Due.due("21 places(4, 9), always the last", x.places(4, 9), 9L * 362880);
        Due.due("21 places(5, 0), always the first", x.places(5, 0), 0);
    }

    /** "11 times before(a, b) is 3 times COUNT at least": just so, and one too few. */
    private static void fairAtLeast() {
        HalfOrders x = Make.told(5, 1, 4, 3, 4, 2, 0, 2, 3);
        Due.due("13 told(0, 7)", x.told(0, 7), 11);
        Due.due("20 before(0, 0, 1)", x.before(0, 0, 1), 3);
        Due.due("22 fair(0), 33 of 33", x.fair(0), 1);
        x.order(8);
        Make.tell(x, 1, 1, 7, 2, 5, 0, 5, 1, 6, 1, 4, 1, 3, 4, 7, 2, 3);
        Due.due("13 told(1, 7)", x.told(1, 7), 969);
        Due.due("20 before(1, 0, 1)", x.before(1, 0, 1), 264);
        Due.due("22 fair(1), 2904 of 2907", x.fair(1), 2);
    }

    /** "and 8 times COUNT at most": just so, and a little more. */
    private static void fairAtMost() {
        HalfOrders x = Make.told(5, 2, 0, 3, 1, 2, 4, 4, 1);
        Due.due("13 told(0, 7)", x.told(0, 7), 11);
        Due.due("20 before(0, 0, 1)", x.before(0, 0, 1), 8);
        Due.due("22 fair(0), 88 of 88", x.fair(0), 1);
        x.order(8);
        Make.tell(x, 1, 0, 1, 4, 2, 0, 7, 2, 6, 5, 7, 7, 1, 3, 1);
        Due.due("13 told(1, 7)", x.told(1, 7), 448);
        Due.due("20 before(1, 0, 2)", x.before(1, 0, 2), 326);
        Due.due("22 fair(1), 3586 of 3584", x.fair(1), 3);
        x.order(10);
        x.row(8);
        x.order(2);
        x.stack(3, 4);
        Due.due("22 fair(5), the last two THINGS", x.fair(5), 89);
    }

    /** "-1: there are none, or no such ORDER." */
    private static void fairOfNone() {
        HalfOrders x = new HalfOrders();
        for (int n = 0; n < 3; n++) {
            x.row(n);
            Due.due("22 fair(" + n + "), a ROW", x.fair(n), -1);
        }
        x.row(10);
        Due.due("22 fair(3), a ROW of ten", x.fair(3), -1);
        x.order(2);
        Due.due("22 fair(4)", x.fair(4), 1);
        Due.due("22 fair(5)", x.fair(5), -1);
    }

    /** "two ROWS OUT (they may be one)". */
    private static void twoRowsThatAreOne() {
        HalfOrders x = Make.told(3, 2, 0, 0, 1);
        int[] row = {2, 0, 1};
        for (int i = 0; i < 3; i++) {
            Due.due("23 two(0, 0, " + i + ")", x.two(0, 0, i), row[i]);
            Due.due("23 two(0, 1, " + i + ")", x.two(0, 1, i), row[i]);
        }
        x.order(10);
        for (int i = 0; i < 10; i++) {
            Due.due("23 two(1, 0, " + i + ")", x.two(1, 0, i), i);
            Due.due("23 two(1, 1, " + i + ")", x.two(1, 1, i), 9 - i);
        }
        HalfOrders ten = new HalfOrders();
        ten.row(10);
        for (int i = 0; i < 10; i++) {
            Due.due("23 two(0, 0, " + i + "), a ROW", ten.two(0, 0, i), i);
            Due.due("23 two(0, 1, " + i + "), a ROW", ten.two(0, 1, i), i);
        }
        // The ROW with rank 0 is none of TWO: 0 1 2 3 parts 0 and 3 by 1 or 2, which are in order with neither.
        x.order(4);
        Make.tell(x, 2, 0, 3, 1, 2);
        int[] first = {0, 3, 1, 2};
        int[] second = {1, 2, 0, 3};
        for (int i = 0; i < 4; i++) {
            Due.due("23 two(2, 0, " + i + ")", x.two(2, 0, i), first[i]);
            Due.due("23 two(2, 1, " + i + ")", x.two(2, 1, i), second[i]);
        }
        // No first ROW begins with 0 1, but that shows only at the places behind.
        x.order(5);
        Make.tell(x, 3, 0, 3, 2, 3, 1, 3, 1, 4);
        int[] third = {0, 2, 1, 3, 4};
        int[] fourth = {1, 4, 2, 0, 3};
        for (int i = 0; i < 5; i++) {
            Due.due("23 two(3, 0, " + i + ")", x.two(3, 0, i), third[i]);
            Due.due("23 two(3, 1, " + i + ")", x.two(3, 1, i), fourth[i]);
        }
        Due.due("23 two(3, 0, 5)", x.two(3, 0, 5), -1);
    }

    /** "The i-th THING of the first (which 0) or second (1) ROW of TWO. -1: none such." */
    private static void twoPlacesOutside() {
        for (int n : new int[] {1, 3, 10}) {
            HalfOrders x = Make.orders(1, n);
            for (int i : new int[] {-1, n, n + 1, LEAST, MOST}) {
                Due.due("23 two(0, 0, " + i + ")", x.two(0, 0, i), -1);
                Due.due("23 two(0, 1, " + i + ")", x.two(0, 1, i), -1);
            }
            Due.due("23 two(0, 0, n - 1)", x.two(0, 0, n - 1), n - 1);
            Due.due("23 two(0, 1, n - 1)", x.two(0, 1, n - 1), 0);
        }
    }

    /** "1 if a is b; 0 if a is not BELOW b; else 0 less the sum". */
    private static void inverses() {
        HalfOrders x = Make.told(10, 0, 9);
        for (int t = 0; t < 10; t++) {
            Due.due("24 invert(0, " + t + ", " + t + ")", x.invert(0, t, t), 1);
        }
        Due.due("24 invert(0, 0, 9), NEXT", x.invert(0, 0, 9), -1);
        Due.due("24 invert(0, 9, 0)", x.invert(0, 9, 0), 0);
        Due.due("24 invert(0, 1, 2)", x.invert(0, 1, 2), 0);
        for (int t = 1; t < 9; t++) {
            Make.tell(x, 0, 0, t, t, 9);
            Due.due("24 invert(0, 0, 9), " + t + " between", x.invert(0, 0, 9), t - 1);
        }
        // THINGS that are BELOW b alone count nothing.
        x.order(4);
        Make.tell(x, 1, 0, 3, 1, 3, 2, 3);
        Due.due("24 invert(1, 0, 3)", x.invert(1, 0, 3), -1);
        x.row(10);
        Due.due("24 invert(2, 0, 1)", x.invert(2, 0, 1), -1);
        Due.due("24 invert(2, 0, 9)", x.invert(2, 0, 9), 0);
    }

    private static void boundsOfOne() {
        HalfOrders x = Make.told(3, 0, 1);
        for (int t = 0; t < 3; t++) {
            for (int way = 0; way < 2; way++) {
                Due.due("25 bound(0, " + t + ", " + t + ", " + way + ")", x.bound(0, t, t, way), t);
            }
        }
        Due.due("25 bound(0, 0, 1, 0), the one itself", x.bound(0, 0, 1, 0), 1);
        Due.due("25 bound(0, 0, 1, 1), the one itself", x.bound(0, 0, 1, 1), 0);
        Due.due("25 bound(0, 1, 0, 0)", x.bound(0, 1, 0, 0), 1);
        Due.due("25 bound(0, 1, 0, 1)", x.bound(0, 1, 0, 1), 0);
    }

    /** "-1: there is none; -2: no such." */
    private static void boundsOfNone() {
        HalfOrders x = Make.told(2);
        Due.due("25 bound(0, 0, 1, 0), no such bound", x.bound(0, 0, 1, 0), -1);
        Due.due("25 bound(0, 0, 1, 1), no such bound", x.bound(0, 0, 1, 1), -1);
        Due.due("25 bound(0, 0, 2, 0)", x.bound(0, 0, 2, 0), -2);
        Due.due("25 bound(0, 0, 1, 2)", x.bound(0, 0, 1, 2), -2);
        x.order(10);
        Make.tell(x, 1, 9, 8, 7, 8);
        Due.due("25 bound(1, 9, 7, 0)", x.bound(1, 9, 7, 0), 8);
        Due.due("25 bound(1, 9, 7, 1)", x.bound(1, 9, 7, 1), -1);
    }

    /** "the first a, b, c .. -1: there are none, or it is no LATTICE." */
    private static void unevenOnes() {
        HalfOrders x = Make.told(5, 0, 1, 0, 2, 0, 3, 1, 4, 2, 4, 3, 4);
        Due.due("26 uneven(0), the least", x.uneven(0), 123);
        x.order(5);
        Make.tell(x, 1, 3, 0, 3, 1, 3, 2, 0, 4, 1, 4, 2, 4);
        Due.due("26 uneven(1), from 0", x.uneven(1), 12);
        x.row(5);
        Due.due("26 uneven(2), an EVEN one", x.uneven(2), -1);
        x.order(4);
        Make.tell(x, 3, 0, 1, 0, 2, 0, 3);
        Due.due("26 uneven(3), no LATTICE", x.uneven(3), -1);
        // 0 1 2 3 in a row, then 4, over it 7, 8 and 9, over these 6 and 5.
        x.order(10);
        Make.tell(x, 4, 0, 1, 1, 2, 2, 3, 3, 4, 4, 7, 4, 8, 4, 9, 7, 6, 8, 6, 9, 6, 6, 5);
        Due.due("13 told(4, 9)", x.told(4, 9), 1);
        Due.due("26 uneven(4), the last three THINGS", x.uneven(4), 789);
        // 0 under 1 and 3, 3 under 2, both 1 and 2 under 4.
        x.order(5);
        Make.tell(x, 5, 0, 1, 0, 3, 3, 2, 1, 4, 2, 4);
        Due.due("26 uneven(5)", x.uneven(5), 213);
        // 2 under 0 under 1 under 4, 2 under 3 under 4.
        x.order(5);
        Make.tell(x, 6, 2, 0, 0, 1, 1, 4, 2, 3, 3, 4);
        Due.due("26 uneven(6), b is 0", x.uneven(6), 103);
    }

    /** "the first four (by a, then b, c, d) .. -1: there are none, or no such ORDER." */
    private static void bentOnes() {
        HalfOrders x = Make.told(10, 9, 7, 8, 7, 8, 6);
        Due.due("27 bent(0), the last four THINGS", x.bent(0), 9876);
        Make.tell(x, 0, 9, 6);
        Due.due("27 bent(0), none any more", x.bent(0), -1);
        x.order(4);
        Make.tell(x, 1, 0, 2, 1, 2, 1, 3);
        Due.due("27 bent(1), the least", x.bent(1), 123);
        x.order(3);
        Due.due("27 bent(2), three THINGS", x.bent(2), -1);
        // 0 1 2 3 and 0 1 2 4: the least d.
        x.order(5);
        Make.tell(x, 3, 0, 2, 1, 2, 1, 3, 1, 4);
        Due.due("27 bent(3)", x.bent(3), 123);
        x.order(5);
        Make.tell(x, 4, 0, 4, 1, 4, 1, 2, 1, 3);
        Due.due("27 bent(4)", x.bent(4), 142);
        int[][] pairs = {{1, 3, 0, 3, 0, 2}, {1, 0, 2, 0, 2, 3}, {1, 3, 2, 3, 2, 0}};
        int[] due = {1032, 1203, 1230};
        for (int i = 0; i < pairs.length; i++) {
            x.order(4);
            Make.tell(x, 5 + i, pairs[i]);
            Due.due("27 bent(" + (5 + i) + "), not from 0", x.bent(5 + i), due[i]);
        }
    }

    /** "-1: there is none, or no such": another n, no map, no such THING. */
    private static void sameOnes() {
        HalfOrders x = Make.told(3, 0, 1);
        x.order(3);
        Make.tell(x, 1, 2, 1);
        int[] due = {2, 1, 0};
        for (int t = 0; t < 3; t++) {
            Due.due("28 same(0, 1, " + t + ")", x.same(0, 1, t), due[t]);
            Due.due("28 same(0, 0, " + t + ")", x.same(0, 0, t), t);
        }
        Due.due("28 same(0, 1, 3)", x.same(0, 1, 3), -1);
        x.order(4);
        Make.tell(x, 2, 0, 1);
        Due.due("28 same(0, 2, 0), a THING more", x.same(0, 2, 0), -1);
        Due.due("28 same(2, 0, 0), a THING less", x.same(2, 0, 0), -1);
        Due.due("28 same(2, 0, 3), a THING that the other one has not", x.same(2, 0, 3), -1);
        x.order(3);
        Due.due("28 same(0, 3, 0), a pair less", x.same(0, 3, 0), -1);
        Due.due("28 same(3, 0, 0), a pair more", x.same(3, 0, 0), -1);
        x.order(3);
        x.order(3);
        Make.tell(x, 4, 0, 1, 0, 2);
        Make.tell(x, 5, 1, 0, 2, 0);
        Due.due("28 same(4, 5, 0), as many pairs, the other way", x.same(4, 5, 0), -1);
        x.order(0);
        x.order(0);
        Due.due("28 same(6, 7, 0), no THINGS", x.same(6, 7, 0), -1);
        HalfOrders ten = Make.told(10, 0, 9);
        ten.order(10);
        Make.tell(ten, 1, 9, 0);
        int[] map = {9, 1, 2, 3, 4, 5, 6, 7, 8, 0};
        for (int t = 0; t < 10; t++) {
            Due.due("28 same(0, 1, " + t + "), ten", ten.same(0, 1, t), map[t]);
        }
        // One ring of ten, and two rings of four and six: all THINGS are alike, and there is no map.
        ten.order(10);
        ten.order(10);
        Make.tell(ten, 2, 0, 5, 0, 6, 1, 6, 1, 7, 2, 7, 2, 8, 3, 8, 3, 9, 4, 9, 4, 5);
        Make.tell(ten, 3, 0, 5, 0, 6, 1, 6, 1, 5, 2, 7, 2, 8, 3, 8, 3, 9, 4, 9, 4, 7);
        Due.due("28 same(2, 3, 0), rings", ten.same(2, 3, 0), -1);
        Due.due("28 same(3, 2, 9), rings", ten.same(3, 2, 9), -1);
        Due.due("28 same(2, 2, 9), rings", ten.same(2, 2, 9), 9);
    }
}
