/** Each boundary case that the Terms and promises 29 to 34 name, under the sentence that names it. */
public final class EdgesOfHandAndActsTest {
    private static final int LEAST = Integer.MIN_VALUE;
    private static final int MOST = Integer.MAX_VALUE;
    private static final int ROWS_OF_TEN = 3628800;

    private EdgesOfHandAndActsTest() {
    }

    public static void main(String[] args) {
        layOfNone();
        layOfOneThatIsInIt();
        layForAnotherOne();
        lowestStatusOfLay();
        fullHand();
        clearedHand();
        emptyHand();
        otherWhatOfTheHand();
        handThatIsNoRowOut();
        firstAndLastPlaceThatLacks();
        ranksOfTheHand();
        jumpsOfTheHand();
        handOfOneThing();
        unlikeOfNone();
        unlikeRanksOutside();
        actsOutside();
        lookWraps();
        partWraps();
        joinWraps();
        tellWraps();
        actsOfNoThings();
        actsOfTheLatestPairs();
        tracePlaces();
        traceOfTheLatest();
        longestTrace();
        Due.end();
    }

    /** "lay .. STATUS 1": the ORDER or the THING is none such. */
    private static void layOfNone() {
        HalfOrders x = Make.orders(2, 3);
        x.order(0);
        for (int none : new int[] {-1, 3, 10, LEAST, MOST}) {
            Due.refused("29 lay(0, " + none + ")", x.lay(0, none), x, 1);
            Due.refused("29 lay(" + none + ", 0)", x.lay(none, 0), x, 1);
        }
        Due.refused("29 lay(2, 0), no THINGS", x.lay(2, 0), x, 1);
        Due.due("29 count(1), all refused", x.count(1), 0);
        Due.due("29 count(2), all refused", x.count(2), -1);
        Due.done("29 lay(1, 2), the last", x.lay(1, 2), 1, x);
        Due.due("29 count(2)", x.count(2), 1);
        Due.done("29 lay(1, 0), the first", x.lay(1, 0), 2, x);
    }

    /** "3 (it is in it ..)": the first, the last and one between. */
    private static void layOfOneThatIsInIt() {
        HalfOrders x = Make.orders(1, 5);
        for (int t = 4; t >= 2; t--) {
            Due.done("29 lay(0, " + t + ")", x.lay(0, t), 5 - t, x);
        }
        for (int t = 2; t <= 4; t++) {
            Due.refused("29 lay(0, " + t + "), it is in it", x.lay(0, t), x, 3);
        }
        Due.due("29 count(1)", x.count(1), 3);
        Due.done("29 lay(0, 0)", x.lay(0, 0), 4, x);
    }

    /** "a HAND that is not empty must be for it"; "3 (.. it is for another one)". */
    private static void layForAnotherOne() {
        HalfOrders x = Make.orders(3, 3);
        Due.done("29 lay(1, 0)", x.lay(1, 0), 1, x);
        Due.refused("29 lay(0, 1), an ORDER ahead of it", x.lay(0, 1), x, 3);
        Due.refused("29 lay(2, 1), an ORDER behind it", x.lay(2, 1), x, 3);
        Due.refused("29 lay(2, 0), in it as well", x.lay(2, 0), x, 3);
        Due.due("29 count(1)", x.count(1), 1);
        Due.due("29 count(2)", x.count(2), 1);
        x.clear();
        Due.done("29 lay(2, 0), it was empty", x.lay(2, 0), 1, x);
        Due.due("29 count(2)", x.count(2), 2);
    }

    /** "Where several hold, the lowest": 1 ahead of 3. */
    private static void lowestStatusOfLay() {
        HalfOrders x = Make.orders(2, 3);
        x.lay(0, 2);
        Due.refused("29 lay(1, 3), for another one too", x.lay(1, 3), x, 1);
        Due.refused("29 lay(2, 0), for another one too", x.lay(2, 0), x, 1);
        Due.refused("29 lay(-1, 2), in it too", x.lay(-1, 2), x, 1);
        Due.refused("29 lay(1, 2), both by 3", x.lay(1, 2), x, 3);
    }

    /** "each there once at most": ten are the most. */
    private static void fullHand() {
        HalfOrders x = Make.orders(1, 10);
        for (int t = 9; t >= 0; t--) {
            Due.done("29 lay(0, " + t + ")", x.lay(0, t), 10 - t, x);
        }
        for (int t = 0; t < 10; t++) {
            Due.refused("29 lay(0, " + t + "), full", x.lay(0, t), x, 3);
        }
        Due.refused("29 lay(0, 10), full", x.lay(0, 10), x, 1);
        Due.due("29 count(1), full", x.count(1), 10);
        Due.due("31 hand(0), the last rank", x.hand(0), ROWS_OF_TEN - 1);
        Due.due("31 hand(1), the most JUMPS", x.hand(1), 9);
        Due.due("32 unlike(0), all pairs", x.unlike(0), 45);
        Due.done("30 clear(), full", x.clear(), 10, x);
        Due.done("29 lay(0, 9)", x.lay(0, 9), 1, x);
    }

    /** "THE HAND is empty: how many it had." */
    private static void clearedHand() {
        HalfOrders x = new HalfOrders();
        Due.done("30 clear(), of a new object", x.clear(), 0, x);
        x.order(2);
        x.order(-1);
        Due.done("30 clear(), empty, behind a refused call", x.clear(), 0, x);
        x.lay(0, 0);
        Due.done("30 clear(), one", x.clear(), 1, x);
        Due.done("30 clear(), again", x.clear(), 0, x);
        Due.due("30 count(1)", x.count(1), 0);
        Due.due("30 count(2)", x.count(2), -1);
    }

    /** "-1: .. or it is empty": also if ORDERS are there, and if it was not. */
    private static void emptyHand() {
        HalfOrders x = new HalfOrders();
        for (int turn = 0; turn < 3; turn++) {
            for (int what = -1; what <= 3; what++) {
                Due.due("31 hand(" + what + "), empty, turn " + turn, x.hand(what), -1);
            }
            Due.due("32 unlike(0), empty, turn " + turn, x.unlike(0), -1);
            if (turn == 0) {
                x.order(0);
                x.order(2);
            } else {
                x.lay(1, 1);
                x.lay(1, 0);
                x.clear();
            }
        }
    }

    /** "-1: another what". */
    private static void otherWhatOfTheHand() {
        HalfOrders x = Make.orders(1, 2);
        x.lay(0, 1);
        x.lay(0, 0);
        for (int what : new int[] {-1, 3, 4, LEAST, MOST}) {
            Due.due("31 hand(" + what + ")", x.hand(what), -1);
        }
        Due.due("31 hand(0), the first", x.hand(0), 1);
        x.pair(0, 0, 1);
        Due.due("31 hand(2), the last", x.hand(2), 0);
    }

    /** "0 and 1: -1: it is no ROW OUT of its ORDER": one lacks; one is ahead of what is BELOW it. */
    private static void handThatIsNoRowOut() {
        HalfOrders x = Make.told(10, 0, 9);
        for (int t = 0; t < 10; t++) {
            Due.due("31 hand(0), " + t + " of ten", x.hand(0), -1);
            Due.due("31 hand(1), " + t + " of ten", x.hand(1), -1);
            Due.due("31 hand(2), " + t + " of ten", x.hand(2), -1);
            Due.due("32 unlike(0), " + t + " of ten", x.unlike(0), -1);
            x.lay(0, t);
        }
        Due.due("31 hand(0), all ten", x.hand(0), 0);
        Due.due("31 hand(1), all ten", x.hand(1), 9);
        Due.due("32 unlike(0), all ten", x.unlike(0), 0);
        Make.tell(x, 0, 9, 8);
        Due.due("31 hand(0), told later that it is none", x.hand(0), -1);
        Due.due("31 hand(1), told later that it is none", x.hand(1), -1);
        Due.due("31 hand(2), told later that it is none", x.hand(2), 8);
        Due.due("32 unlike(0), told later that it is none", x.unlike(0), -1);
    }

    /** "the first place of a THING ahead of which one that is BELOW it lacks (-1: there is none)". */
    private static void firstAndLastPlaceThatLacks() {
        HalfOrders x = Make.told(3, 2, 0, 1, 0);
        x.lay(0, 0);
        Due.due("31 hand(2), the first place", x.hand(2), 0);
        x.lay(0, 1);
        x.lay(0, 2);
        Due.due("31 hand(2), they come too late", x.hand(2), 0);
        x.clear();
        x.lay(0, 1);
        Due.due("31 hand(2), none lacks", x.hand(2), -1);
        x.lay(0, 0);
        Due.due("31 hand(2), one of two lacks", x.hand(2), 1);
        x.clear();
        x.lay(0, 1);
        x.lay(0, 2);
        x.lay(0, 0);
        Due.due("31 hand(2), all ahead", x.hand(2), -1);
        HalfOrders ten = Make.told(10, 0, 9);
        for (int t = 1; t < 10; t++) {
            ten.lay(0, t);
        }
        Due.due("31 hand(2), the ninth place", ten.hand(2), 8);
        Due.due("31 hand(0), nine of ten", ten.hand(0), -1);
    }

    private static void ranksOfTheHand() {
        HalfOrders x = Make.told(3, 2, 0);
        int[][] rows = {{1, 2, 0}, {2, 0, 1}, {2, 1, 0}};
        for (int rank = 0; rank < rows.length; rank++) {
            x.clear();
            for (int t : rows[rank]) {
                x.lay(0, t);
            }
            Due.due("31 hand(0)", x.hand(0), rank);
        }
        HalfOrders ten = new HalfOrders();
        ten.row(10);
        for (int t = 0; t < 10; t++) {
            ten.lay(0, t);
        }
        Due.due("31 hand(0), the only one", ten.hand(0), 0);
        Due.due("31 hand(1), no JUMP", ten.hand(1), 0);
    }

    /** "at how many places behind the first one a THING stands that the one just ahead of it is not BELOW". */
    private static void jumpsOfTheHand() {
        HalfOrders x = Make.told(3, 0, 1, 1, 2);
        x.order(3);
        Make.tell(x, 1, 0, 2);
        x.lay(0, 0);
        x.lay(0, 1);
        x.lay(0, 2);
        Due.due("31 hand(1), none", x.hand(1), 0);
        x.clear();
        x.lay(1, 0);
        x.lay(1, 1);
        x.lay(1, 2);
        Due.due("31 hand(1), 0 is BELOW 2, but not just ahead of it", x.hand(1), 2);
        x.clear();
        x.lay(1, 0);
        x.lay(1, 2);
        x.lay(1, 1);
        Due.due("31 hand(1), just ahead of it", x.hand(1), 1);
    }

    private static void handOfOneThing() {
        HalfOrders x = Make.orders(1, 1);
        Due.done("29 lay(0, 0)", x.lay(0, 0), 1, x);
        Due.due("31 hand(0)", x.hand(0), 0);
        Due.due("31 hand(1)", x.hand(1), 0);
        Due.due("31 hand(2)", x.hand(2), -1);
        Due.due("32 unlike(0)", x.unlike(0), 0);
        Due.due("32 unlike(1)", x.unlike(1), -1);
    }

    /** "-1: it is none": no ROW OUT. */
    private static void unlikeOfNone() {
        HalfOrders x = Make.told(2, 0, 1);
        Due.due("32 unlike(0), empty", x.unlike(0), -1);
        x.lay(0, 0);
        Due.due("32 unlike(0), not all", x.unlike(0), -1);
        x.clear();
        x.lay(0, 1);
        x.lay(0, 0);
        Due.due("32 unlike(0), all, but the wrong way", x.unlike(0), -1);
        x.clear();
        x.lay(0, 0);
        x.lay(0, 1);
        Due.due("32 unlike(0)", x.unlike(0), 0);
    }

    /** "or there is none such": a rank below 0, or COUNT and more. */
    private static void unlikeRanksOutside() {
        HalfOrders x = Make.told(3, 2, 0);
        x.lay(0, 2);
        x.lay(0, 1);
        x.lay(0, 0);
        int[] due = {1, 1, 0};
        for (int rank = 0; rank < due.length; rank++) {
            Due.due("32 unlike(" + rank + ")", x.unlike(rank), due[rank]);
        }
        for (int rank : new int[] {-1, 3, 4, LEAST, MOST}) {
            Due.due("32 unlike(" + rank + ")", x.unlike(rank), -1);
        }
        HalfOrders ten = Make.orders(1, 10);
        for (int t = 0; t < 10; t++) {
            ten.lay(0, t);
        }
        Due.due("32 unlike(last)", ten.unlike(ROWS_OF_TEN - 1), 45);
        Due.due("32 unlike(COUNT)", ten.unlike(ROWS_OF_TEN), -1);
    }

    /** "act .. STATUS 1": the ORDER or the ACT is none such. */
    private static void actsOutside() {
        HalfOrders x = Make.orders(1, 2);
        for (int none : new int[] {-1, 1, 8, LEAST, MOST}) {
            Due.refused("33 act(" + none + ", 0, 5)", x.act(none, 0, 5), x, 1);
        }
        for (int none : new int[] {-1, 4, 5, LEAST, MOST}) {
            Due.refused("33 act(0, " + none + ", 5)", x.act(0, none, 5), x, 1);
        }
        Due.due("33 count(3), all refused", x.count(3), 0);
        int[] answers = {5, 10, 5, 10 ^ 5};
        for (int act = 0; act < 4; act++) {
            x.act(0, 4, 5);
            Due.done("33 act(0, " + act + ", 5), behind a refused one", x.act(0, act, 5), answers[act], x);
        }
        Due.done("33 act(0, 0, 5), the first", x.act(0, 0, 5), 5, x);
        Due.done("33 act(0, 3, 5), the last", x.act(0, 3, 5), 10 ^ 5, x);
        // An ACT may answer -1, and is done all the same.
        Due.done("33 act(0, 0, -1)", x.act(0, 0, -1), -1, x);
        Due.due("33 count(3)", x.count(3), 1);
    }

    /** ORDERS of all KINDS, with their n and p. */
    private static HalfOrders actors() {
        HalfOrders x = Make.told(3, 0, 1, 1, 2);
        x.stack(0, 0);
        x.beside(0, 0);
        x.row(2);
        x.times(3, 3);
        x.held(0);
        x.row(5);
        int[] kinds = {0, 1, 2, 5, 3, 4, 5};
        int[] things = {3, 6, 6, 2, 4, 4, 5};
        int[] pairs = {3, 15, 6, 1, 5, 6, 10};
        for (int i = 0; i < kinds.length; i++) {
            Due.due("told(" + i + ", 0)", x.told(i, 0), kinds[i]);
            Due.due("told(" + i + ", 1)", x.told(i, 1), things[i]);
            Due.due("told(" + i + ", 2)", x.told(i, 2), pairs[i]);
        }
        return x;
    }

    /** "(32 bits, wrapping)": look. */
    private static void lookWraps() {
        HalfOrders x = actors();
        Due.done("33 ORDER look, not yet", x.act(0, 0, MOST - 3), MOST, x);
        Due.done("33 ORDER look", x.act(0, 0, MOST - 2), LEAST, x);
        Due.done("33 STACK look, not yet", x.act(1, 0, MOST - 16), MOST, x);
        Due.done("33 STACK look", x.act(1, 0, MOST - 15), LEAST, x);
        Due.done("33 BESIDE look", x.act(2, 0, MOST), LEAST + 6, x);
        Due.done("33 TIMES look", x.act(4, 0, MOST), LEAST + 5, x);
        // x - n wraps, and x + p wraps back.
        Due.done("33 HELD look", x.act(5, 0, LEAST), LEAST + 2, x);
        Due.done("33 HELD look, the other end", x.act(5, 0, MOST), LEAST + 1, x);
        Due.done("33 ROW look, not yet", x.act(6, 0, (1 << 30) - 12), MOST - 1, x);
        Due.done("33 ROW look", x.act(6, 0, (1 << 30) - 11), LEAST, x);
    }

    /** "(32 bits, wrapping)": part. */
    private static void partWraps() {
        HalfOrders x = actors();
        // 715827882 times 3 is 2^31 - 2.
        Due.done("33 ORDER part, not yet", x.act(0, 1, 715827882 - 3), MOST - 1, x);
        Due.done("33 ORDER part", x.act(0, 1, 715827883 - 3), LEAST + 1, x);
        Due.done("33 ORDER part, wraps twice", x.act(0, 1, MOST), (LEAST + 2) * 3, x);
        Due.due("33 ORDER part, worked out", (LEAST + 2) * 3, LEAST + 6);
        // (x + 5 + 1) times 4 is 2^31, less 5.
        Due.done("33 TIMES part", x.act(4, 1, (1 << 29) - 6), MOST - 4, x);
        // ((x + 2 + 10) + 1) times 2, times 5: x + 2 wraps.
        Due.done("33 ROW part", x.act(6, 1, MOST), (LEAST + 12) * 2 * 5, x);
        Due.due("33 ROW part, worked out", (LEAST + 12) * 2 * 5, 120);
        Due.done("33 HELD part", x.act(5, 1, LEAST), 8, x);
    }

    /** "(32 bits, wrapping)": join. */
    private static void joinWraps() {
        HalfOrders x = actors();
        Due.done("33 ORDER join, k is 0", x.act(0, 2, LEAST), LEAST, x);
        Due.done("33 STACK join, not yet", x.act(1, 2, LEAST + 1), LEAST, x);
        Due.done("33 STACK join", x.act(1, 2, LEAST), MOST, x);
        Due.done("33 BESIDE join, not yet", x.act(2, 2, 715827882 + 2), MOST - 1, x);
        Due.done("33 BESIDE join", x.act(2, 2, 715827883 + 2), LEAST + 1, x);
        // (x - 4) * 3 + (x + 5 + 1) of 2^31 - 1: all wrapped.
        Due.done("33 TIMES join", x.act(4, 2, MOST), MOST - 14 + LEAST + 5, x);
        Due.due("33 TIMES join, worked out", MOST - 14 + LEAST + 5, -10);
        Due.done("33 HELD join", x.act(5, 2, LEAST), MOST - 4, x);
        Due.done("33 ROW join", x.act(6, 2, LEAST + 5), MOST, x);
    }

    /** "(32 bits, wrapping)": tell. */
    private static void tellWraps() {
        HalfOrders x = actors();
        Due.done("33 ORDER tell", x.act(0, 3, MOST), (LEAST + 6) ^ MOST, x);
        // x * 2 is 0, and -2.
        Due.done("33 STACK tell", x.act(1, 3, LEAST), (16 * 6) ^ -1, x);
        Due.done("33 STACK tell, the other end", x.act(1, 3, MOST), (14 * 6) ^ -3, x);
        Due.done("33 BESIDE tell", x.act(2, 3, LEAST), (7 * 6) ^ -6, x);
        Due.done("33 TIMES tell", x.act(4, 3, LEAST), (6 * 4 - 5) ^ (-12 + 6), x);
        Due.done("33 ROW tell", x.act(6, 3, LEAST), (13 * 2 * 5) ^ -6, x);
        // join is 2^31 - 5, and so is what tell() takes for it; part is (x - 4 + 6) * 4.
        Due.done("33 HELD tell", x.act(5, 3, LEAST), MOST - 4 + (8 ^ MOST - 4), x);
    }

    private static void actsOfNoThings() {
        HalfOrders x = Make.told(0);
        x.stack(0, 0);
        x.beside(0, 0);
        x.times(0, 0);
        x.row(0);
        x.held(0);
        Due.done("33 ORDER look", x.act(0, 0, 7), 7, x);
        Due.done("33 ORDER part, n is 0", x.act(0, 1, 7), 0, x);
        Due.done("33 ORDER tell", x.act(0, 3, 7), 7, x);
        Due.done("33 STACK part", x.act(1, 1, 7), 0, x);
        Due.done("33 BESIDE join", x.act(2, 2, 7), 15, x);
        Due.done("33 TIMES part", x.act(3, 1, 7), 0, x);
        Due.done("33 ROW look", x.act(4, 0, 7), 16, x);
        Due.done("33 ROW part", x.act(4, 1, 7), 0, x);
        Due.done("33 HELD look, one THING", x.act(5, 0, 7), 6, x);
        Due.done("33 HELD tell, one THING", x.act(5, 3, 7), 2 + (6 ^ 2), x);
    }

    /** p is how many pairs there are now; k is the number that the ORDER has. */
    private static void actsOfTheLatestPairs() {
        HalfOrders x = Make.orders(8, 4);
        Due.done("33 look", x.act(7, 0, 1), 1, x);
        Make.tell(x, 7, 0, 1, 1, 2);
        Due.done("33 look, with what follows", x.act(7, 0, 1), 4, x);
        Due.done("33 join, the last number", x.act(7, 2, 1), -6, x);
        x.drop();
        x.order(2);
        Due.done("33 look, another ORDER with its number", x.act(7, 0, 1), 1, x);
    }

    private static void traceIs(HalfOrders x, int... due) {
        Due.due("14 count(3)", x.count(3), due.length);
        for (int i = 0; i < due.length; i++) {
            Due.due("34 trace(" + i + ")", x.trace(i), due[i]);
        }
        for (int i = due.length; i <= 61; i++) {
            Due.due("34 trace(" + i + ")", x.trace(i), -1);
        }
    }

    /** "THE TRACE's i-th body. -1: none such." */
    private static void tracePlaces() {
        HalfOrders x = Make.orders(1, 2);
        traceIs(x);
        x.act(0, 3, 1);
        traceIs(x, 13, 11, 10, 12);
        for (int i : new int[] {-1, 4, LEAST, MOST}) {
            Due.due("34 trace(" + i + ")", x.trace(i), -1);
        }
    }

    /** "the bodies that ran in the latest act()": a refused one ran none and changes nothing. */
    private static void traceOfTheLatest() {
        HalfOrders x = Make.orders(1, 2);
        x.row(2);
        x.act(1, 3, 1);
        traceIs(x, 21, 13, 60, 11, 61, 20, 10, 12);
        x.act(0, 1, 1);
        traceIs(x, 11, 10);
        Due.refused("33 act(0, 4, 1)", x.act(0, 4, 1), x, 1);
        traceIs(x, 11, 10);
        Due.refused("33 act(2, 0, 1)", x.act(2, 0, 1), x, 1);
        traceIs(x, 11, 10);
        x.act(0, 2, 1);
        traceIs(x, 12);
        x.drop();
        x.drop();
        traceIs(x, 12);
    }

    /** "the first 60 are kept": no ACT runs more than eleven bodies, and all of them are kept. */
    private static void longestTrace() {
        HalfOrders x = actors();
        int longest = 0;
        for (int order = 0; order < 7; order++) {
            for (int act = 0; act < 4; act++) {
                x.act(order, act, 1);
                longest = Math.max(longest, x.count(3));
            }
        }
        Due.due("34 the most bodies", longest, 11);
        x.act(4, 3, 1);
        traceIs(x, 21, 13, 40, 11, 20, 10, 41, 30, 12, 20, 10);
        x.act(5, 3, 1);
        traceIs(x, 51, 12, 13, 11, 50, 10, 12);
    }
}
