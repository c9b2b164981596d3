/** Each boundary case that the Terms and promises 1 to 12 name, under the sentence that names it. */
public final class EdgesOfOrdersTest {
    private static final int LEAST = Integer.MIN_VALUE;
    private static final int MOST = Integer.MAX_VALUE;

    private interface Maker {
        int make(HalfOrders x);
    }

    private EdgesOfOrdersTest() {
    }

    public static void main(String[] args) {
        usedForAtMost512Calls();
        newObject();
        objectsShareNothing();
        thingsOfAnOrder();
        thingsOfARow();
        eightOrders();
        lowestStatusWhenFull();
        noSuchOrderToMakeFrom();
        moreThanTenThings();
        ordersOfNoThings();
        numbersOfTimes();
        ordersAreAsTheOthersWere();
        noneIsBelowItself();
        pairOfThingsOutside();
        pairOfAnotherKind();
        pairThatIsSoAlready();
        pairThatIsTheOtherWay();
        pairWithAllThatFollows();
        allPairsOfTen();
        duals();
        bitsOfAPart();
        numbersOfAPart();
        madeBehindQuestions();
        dropOfNone();
        dropAndTheHand();
        dropLeavesTheRest();
        Due.end();
    }

    /** "An object is used for at most 512 calls after it has been made." */
    private static void usedForAtMost512Calls() {
        HalfOrders x = new HalfOrders();
        for (int i = 0; i < 510; i++) {
            long got = i % 2 == 0 ? x.order(10) : x.drop();
            Due.due("call " + (i + 1), got, 0);
        }
        Due.due("call 511: order(10)", x.order(10), 0);
        Due.due("call 512: told(0, 7)", x.told(0, 7), 3628800);
        HalfOrders acting = new HalfOrders();
        acting.order(2);
        for (int call = 2; call <= 511; call++) {
            acting.act(0, 3, call);
        }
        Due.due("call 512: trace(3)", acting.trace(3), 12);
        HalfOrders telling = new HalfOrders();
        telling.order(2);
        for (int call = 2; call <= 511; call++) {
            telling.pair(0, call % 2, 1 - call % 2);
        }
        Due.due("call 512: round(1)", telling.round(1), 1);
    }

    /** "No ORDERS, an empty HAND, all SHEETS missing." */
    private static void newObject() {
        HalfOrders x = new HalfOrders();
        Due.due("1 status()", x.status(), 0);
        Due.due("1 count(0)", x.count(0), 0);
        Due.due("1 count(1)", x.count(1), 0);
        Due.due("1 count(2)", x.count(2), -1);
        Due.due("1 count(3)", x.count(3), 0);
        Due.due("1 told(0, 0)", x.told(0, 0), -1);
        Due.due("1 hand(2)", x.hand(2), -1);
        Due.due("1 round(0)", x.round(0), -1);
        Due.due("1 trace(0)", x.trace(0), -1);
        Due.refused("1 drop()", x.drop(), x, 3);
        Due.done("1 clear()", x.clear(), 0, x);
        for (int i = 0; i < 8; i++) {
            Due.refused("1 forge(0, 0, " + i + ")", x.forge(0, 0, i), x, 10);
        }
        for (int sheet = 0; sheet < 4; sheet++) {
            Due.refused("1 cell(" + sheet + ", 0, 0)", x.cell(sheet, 0, 0), x, 10);
        }
        Due.done("1 order(1)", x.order(1), 0, x);
    }

    private static void objectsShareNothing() {
        HalfOrders used = Make.told(3, 0, 1);
        used.pair(0, 1, 0);
        used.lay(0, 2);
        used.act(0, 3, 1);
        used.sheet(0, 0, 1);
        newObject();
        Due.due("1 round(0) of the other", used.round(0), 0);
        Due.due("1 count(1) of the other", used.count(1), 1);
    }

    /** "each has THINGS 0 .. n - 1 (n 0 .. 10)"; "An ORDER of n (0 .. 10) THINGS without pairs". */
    private static void thingsOfAnOrder() {
        HalfOrders x = new HalfOrders();
        int[] outside = {-1, 11, 12, LEAST, MOST};
        for (int n : outside) {
            Due.refused("2 order(" + n + ")", x.order(n), x, 1);
        }
        Due.due("2 count(0), all refused", x.count(0), 0);
        int[] inside = {0, 1, 9, 10};
        for (int i = 0; i < inside.length; i++) {
            Due.done("2 order(" + inside[i] + ")", x.order(inside[i]), i, x);
            Due.due("2 told(" + i + ", 0)", x.told(i, 0), 0);
            Due.due("2 told(" + i + ", 1)", x.told(i, 1), inside[i]);
            Due.due("2 told(" + i + ", 2)", x.told(i, 2), 0);
        }
    }

    /** "A ROW of n (0 .. 10) THINGS." */
    private static void thingsOfARow() {
        HalfOrders x = new HalfOrders();
        int[] outside = {-1, 11, 12, LEAST, MOST};
        for (int n : outside) {
            Due.refused("9 row(" + n + ")", x.row(n), x, 1);
        }
        Due.due("9 count(0), all refused", x.count(0), 0);
        int[] inside = {0, 1, 2, 10};
        int[] pairs = {0, 0, 1, 45};
        for (int i = 0; i < inside.length; i++) {
            Due.done("9 row(" + inside[i] + ")", x.row(inside[i]), i, x);
            Due.due("9 told(" + i + ", 0)", x.told(i, 0), 5);
            Due.due("9 told(" + i + ", 1)", x.told(i, 1), inside[i]);
            Due.due("9 told(" + i + ", 2)", x.told(i, 2), pairs[i]);
        }
        Due.due("9 below(3, 0, 9)", x.below(3, 0, 9), 1);
        Due.due("9 below(3, 8, 9)", x.below(3, 8, 9), 2);
        Due.due("9 below(3, 9, 8)", x.below(3, 9, 8), 0);
    }

    private static Maker[] makers() {
        return new Maker[] {
            x -> x.order(2), x -> x.stack(0, 1), x -> x.beside(0, 1), x -> x.times(0, 1),
            x -> x.held(0), x -> x.row(2), x -> x.dual(0), x -> x.part(0, 1)};
    }

    /** "ORDERS 0 .. 7 are numbered as they come"; "there is no room (8 ORDERS ..)". */
    private static void eightOrders() {
        Maker[] makers = makers();
        for (int i = 0; i < makers.length; i++) {
            HalfOrders x = Make.orders(7, 2);
            Due.done("maker " + i + ", the eighth", makers[i].make(x), 7, x);
            Due.due("maker " + i + ", count(0)", x.count(0), 8);
            Due.refused("maker " + i + ", the ninth", makers[i].make(x), x, 2);
            Due.due("maker " + i + ", count(0), full", x.count(0), 8);
            Due.due("maker " + i + ", told(8, 0)", x.told(8, 0), -1);
            Due.done("maker " + i + ", drop()", x.drop(), 7, x);
            Due.done("maker " + i + ", the eighth again", makers[i].make(x), 7, x);
        }
        HalfOrders empty = Make.orders(8, 0);
        Due.refused("2 order(0), the ninth", empty.order(0), empty, 2);
        Due.refused("9 row(0), the ninth", empty.row(0), empty, 2);
        Due.refused("11 part(0, 0), the ninth", empty.part(0, 0), empty, 2);
    }

    /** "Where several hold, the lowest": 1 ahead of 2. */
    private static void lowestStatusWhenFull() {
        Maker[] wrong = {
            x -> x.order(-1), x -> x.order(11), x -> x.stack(0, 8), x -> x.stack(8, 0), x -> x.stack(-1, 0),
            x -> x.beside(0, 8), x -> x.beside(8, 0), x -> x.beside(0, -1), x -> x.times(0, 8), x -> x.times(8, 0),
            x -> x.times(-1, 0), x -> x.held(8), x -> x.held(-1), x -> x.row(-1), x -> x.row(11), x -> x.dual(8),
            x -> x.dual(-1), x -> x.part(8, 0), x -> x.part(-1, 0), x -> x.part(0, 1024), x -> x.part(0, -1)};
        for (int i = 0; i < wrong.length; i++) {
            HalfOrders x = Make.orders(8, 10);
            Due.refused("full, wrong maker " + i, wrong[i].make(x), x, 1);
        }
        HalfOrders x = Make.orders(8, 10);
        Due.refused("5 stack(0, 1), full and too large", x.stack(0, 1), x, 2);
        Due.refused("6 beside(0, 1), full and too large", x.beside(0, 1), x, 2);
        Due.refused("7 times(0, 1), full and too large", x.times(0, 1), x, 2);
        Due.refused("8 held(0), full and too large", x.held(0), x, 2);
    }

    /** "STATUS 1": the number of an ORDER is none such. */
    private static void noSuchOrderToMakeFrom() {
        int[] none = {-1, 2, 8, LEAST, MOST};
        for (int order : none) {
            HalfOrders x = Make.orders(2, 1);
            Due.refused("5 stack(" + order + ", 1)", x.stack(order, 1), x, 1);
            Due.refused("5 stack(1, " + order + ")", x.stack(1, order), x, 1);
            Due.refused("6 beside(" + order + ", 1)", x.beside(order, 1), x, 1);
            Due.refused("6 beside(1, " + order + ")", x.beside(1, order), x, 1);
            Due.refused("7 times(" + order + ", 1)", x.times(order, 1), x, 1);
            Due.refused("7 times(1, " + order + ")", x.times(1, order), x, 1);
            Due.refused("8 held(" + order + ")", x.held(order), x, 1);
            Due.refused("10 dual(" + order + ")", x.dual(order), x, 1);
            Due.refused("11 part(" + order + ", 0)", x.part(order, 0), x, 1);
            Due.refused("3 pair(" + order + ", 0, 1)", x.pair(order, 0, 1), x, 1);
            Due.due("count(0), all refused", x.count(0), 2);
            Due.done("5 stack(1, 1), the last there is", x.stack(1, 1), 2, x);
        }
    }

    /** "there is no room (.. an ORDER would have more than 10 THINGS)". */
    private static void moreThanTenThings() {
        HalfOrders x = new HalfOrders();
        x.order(5);
        x.order(6);
        x.order(10);
        x.order(1);
        Due.refused("5 stack(0, 1), eleven", x.stack(0, 1), x, 2);
        Due.refused("5 stack(2, 3), eleven", x.stack(2, 3), x, 2);
        Due.refused("5 stack(2, 2), twenty", x.stack(2, 2), x, 2);
        Due.refused("6 beside(1, 0), eleven", x.beside(1, 0), x, 2);
        Due.refused("6 beside(3, 2), eleven", x.beside(3, 2), x, 2);
        Due.refused("7 times(0, 1), thirty", x.times(0, 1), x, 2);
        Due.refused("7 times(2, 2), a hundred", x.times(2, 2), x, 2);
        Due.due("count(0), all refused", x.count(0), 4);
        Due.done("5 stack(0, 0), ten", x.stack(0, 0), 4, x);
        Due.due("5 told(4, 1)", x.told(4, 1), 10);
        Due.done("6 beside(0, 0), ten", x.beside(0, 0), 5, x);
        Due.due("6 told(5, 1)", x.told(5, 1), 10);
        Due.done("7 times(2, 3), ten", x.times(2, 3), 6, x);
        Due.due("7 told(6, 1)", x.told(6, 1), 10);
        x = Make.told(3);
        x.order(4);
        x.order(2);
        x.order(5);
        Due.refused("7 times(0, 1), twelve", x.times(0, 1), x, 2);
        Due.done("7 times(2, 3), ten", x.times(2, 3), 4, x);
        Due.done("8 held(0), eight LOW SETS", x.held(0), 5, x);
        Due.refused("8 held(1), sixteen LOW SETS", x.held(1), x, 2);
        x = new HalfOrders();
        x.row(9);
        x.row(10);
        x.order(10);
        x.row(4);
        x.order(1);
        x.beside(3, 4);
        Due.refused("8 held(1), eleven LOW SETS", x.held(1), x, 2);
        Due.refused("8 held(2), 1024 LOW SETS", x.held(2), x, 2);
        Due.done("8 held(0), ten LOW SETS", x.held(0), 6, x);
        Due.due("8 told(6, 1)", x.told(6, 1), 10);
        Due.done("8 held(5), two times five LOW SETS", x.held(5), 7, x);
        Due.due("8 told(7, 1)", x.told(7, 1), 10);
    }

    /** "n 0": all that is made of an ORDER of no THINGS. */
    private static void ordersOfNoThings() {
        HalfOrders x = Make.told(2, 1, 0);
        x.order(0);
        Due.done("5 stack(0, 1)", x.stack(0, 1), 2, x);
        Due.done("5 stack(1, 0)", x.stack(1, 0), 3, x);
        Due.done("6 beside(0, 1)", x.beside(0, 1), 4, x);
        Due.done("6 beside(1, 0)", x.beside(1, 0), 5, x);
        for (int i = 2; i <= 5; i++) {
            Due.due("told(" + i + ", 0)", x.told(i, 0), i / 2);
            Due.due("told(" + i + ", 1)", x.told(i, 1), 2);
            Due.due("below(" + i + ", 1, 0)", x.below(i, 1, 0), 2);
            Due.due("below(" + i + ", 0, 1)", x.below(i, 0, 1), 0);
        }
        Due.done("7 times(0, 1)", x.times(0, 1), 6, x);
        Due.done("7 times(1, 0)", x.times(1, 0), 7, x);
        Due.due("7 told(6, 0)", x.told(6, 0), 3);
        Due.due("7 told(6, 1)", x.told(6, 1), 0);
        Due.due("7 told(7, 1)", x.told(7, 1), 0);
        x = Make.told(0);
        Due.done("5 stack(0, 0)", x.stack(0, 0), 1, x);
        Due.done("6 beside(0, 0)", x.beside(0, 0), 2, x);
        Due.done("7 times(0, 0)", x.times(0, 0), 3, x);
        Due.done("8 held(0), the empty LOW SET alone", x.held(0), 4, x);
        Due.done("10 dual(0)", x.dual(0), 5, x);
        Due.done("11 part(0, 0)", x.part(0, 0), 6, x);
        int[] kinds = {0, 1, 2, 3, 4, 0, 0};
        for (int i = 0; i < kinds.length; i++) {
            Due.due("told(" + i + ", 0)", x.told(i, 0), kinds[i]);
            Due.due("told(" + i + ", 1)", x.told(i, 1), i == 4 ? 1 : 0);
        }
        Due.refused("3 pair(0, 0, 0)", x.pair(0, 0, 0), x, 1);
        Due.refused("3 pair(0, 0, 1)", x.pair(0, 0, 1), x, 1);
    }

    /** "with the number x times the second's n and y": ten THINGS, both ways round. */
    private static void numbersOfTimes() {
        HalfOrders x = new HalfOrders();
        x.row(2);
        x.order(5);
        x.times(0, 1);
        x.times(1, 0);
        for (int a = 0; a < 10; a++) {
            for (int b = 0; b < 10; b++) {
                Due.due("7 below(2, " + a + ", " + b + ")", x.below(2, a, b), b == a + 5 ? 2 : 0);
                Due.due("7 below(3, " + a + ", " + b + ")", x.below(3, a, b), b == a + 1 && a % 2 == 0 ? 2 : 0);
            }
        }
    }

    /** "An ORDER is as the others were when it came." */
    private static void ordersAreAsTheOthersWere() {
        HalfOrders x = Make.orders(1, 2);
        x.stack(0, 0);
        x.beside(0, 0);
        x.times(0, 0);
        x.held(0);
        x.dual(0);
        x.part(0, 3);
        int[] pairs = {0, 4, 0, 0, 5, 0, 0};
        Due.done("3 pair(0, 0, 1)", x.pair(0, 0, 1), 1, x);
        for (int i = 1; i < pairs.length; i++) {
            Due.due("told(" + i + ", 2), as it was", x.told(i, 2), pairs[i]);
        }
        Due.due("told(4, 1), as it was", x.told(4, 1), 4);
        Due.done("3 pair(5, 1, 0)", x.pair(5, 1, 0), 1, x);
        Due.done("3 pair(6, 1, 0)", x.pair(6, 1, 0), 1, x);
        Due.due("3 below(0, 1, 0), not told of it", x.below(0, 1, 0), 0);
        Due.due("3 below(0, 0, 1)", x.below(0, 0, 1), 2);
    }

    /** "none is BELOW itself"; "STATUS 1 (also a = b)". */
    private static void noneIsBelowItself() {
        HalfOrders x = Make.told(10, 0, 1, 1, 9);
        for (int t = 0; t < 10; t++) {
            Due.due("15 below(0, " + t + ", " + t + ")", x.below(0, t, t), 0);
            Due.refused("3 pair(0, " + t + ", " + t + ")", x.pair(0, t, t), x, 1);
        }
        Due.due("3 told(0, 2)", x.told(0, 2), 3);
        HalfOrders kinds = Make.allKinds();
        for (int order = 1; order < 6; order++) {
            Due.refused("3 pair(" + order + ", 1, 1), of another KIND too", kinds.pair(order, 1, 1), kinds, 1);
        }
        HalfOrders one = Make.told(1);
        Due.refused("3 pair(0, 0, 0), one THING", one.pair(0, 0, 0), one, 1);
    }

    /** "STATUS 1": a THING is none such. */
    private static void pairOfThingsOutside() {
        int[] none = {-1, 3, 10, 31, 32, LEAST, MOST};
        HalfOrders x = Make.orders(1, 3);
        for (int t : none) {
            Due.refused("3 pair(0, " + t + ", 0)", x.pair(0, t, 0), x, 1);
            Due.refused("3 pair(0, 0, " + t + ")", x.pair(0, 0, t), x, 1);
            Due.refused("3 pair(0, " + t + ", " + t + ")", x.pair(0, t, t), x, 1);
        }
        Due.due("3 told(0, 2), all refused", x.told(0, 2), 0);
        Due.done("3 pair(0, 0, 2)", x.pair(0, 0, 2), 1, x);
        x = Make.orders(1, 10);
        Due.refused("3 pair(0, 0, 10)", x.pair(0, 0, 10), x, 1);
        Due.refused("3 pair(0, 10, 0)", x.pair(0, 10, 0), x, 1);
        Due.done("3 pair(0, 9, 0)", x.pair(0, 9, 0), 1, x);
        x.row(3);
        Due.refused("3 pair(1, 0, 3), of another KIND too", x.pair(1, 0, 3), x, 1);
        Due.refused("3 pair(1, -1, 0), of another KIND too", x.pair(1, -1, 0), x, 1);
    }

    /** "3 (of another KIND ..)": even if it is so already. */
    private static void pairOfAnotherKind() {
        HalfOrders x = Make.allKinds();
        for (int order = 1; order < 6; order++) {
            int pairs = x.told(order, 2);
            Due.refused("3 pair(" + order + ", 0, 1)", x.pair(order, 0, 1), x, 3);
            Due.refused("3 pair(" + order + ", 1, 0)", x.pair(order, 1, 0), x, 3);
            Due.due("3 told(" + order + ", 2)", x.told(order, 2), pairs);
        }
        Due.refused("3 pair(5, 0, 2), so already", x.pair(5, 0, 2), x, 3);
        x.dual(5);
        x.part(5, 5);
        Due.done("10 pair(6, 2, 0), a dual is of KIND 0", x.pair(6, 2, 0), 0, x);
        Due.done("11 pair(7, 0, 1), a part is of KIND 0", x.pair(7, 0, 1), 0, x);
    }

    /** "1; 0: it was so already": as it was told, and as it follows. */
    private static void pairThatIsSoAlready() {
        HalfOrders x = Make.told(3, 0, 1, 1, 2);
        Due.done("3 pair(0, 0, 1), told before", x.pair(0, 0, 1), 0, x);
        Due.done("3 pair(0, 0, 2), it follows", x.pair(0, 0, 2), 0, x);
        Due.due("3 told(0, 2)", x.told(0, 2), 3);
    }

    /** "3 (.. b is BELOW a)": as it was told, and as it follows. */
    private static void pairThatIsTheOtherWay() {
        HalfOrders x = Make.told(4, 0, 1, 1, 2);
        Due.refused("3 pair(0, 1, 0)", x.pair(0, 1, 0), x, 3);
        Due.refused("3 pair(0, 2, 0), it follows", x.pair(0, 2, 0), x, 3);
        Due.due("3 told(0, 2)", x.told(0, 2), 3);
        Due.done("3 pair(0, 2, 3), without order", x.pair(0, 2, 3), 1, x);
        Due.refused("3 pair(0, 3, 0), it follows now", x.pair(0, 3, 0), x, 3);
    }

    /** "with all that follows": all BELOW a come BELOW all that b is BELOW of. */
    private static void pairWithAllThatFollows() {
        HalfOrders x = Make.told(10, 0, 8, 9, 8, 3, 1, 3, 2, 1, 4);
        Due.due("3 told(0, 2)", x.told(0, 2), 6);
        Due.done("3 pair(0, 8, 3)", x.pair(0, 8, 3), 1, x);
        int[] lower = {0, 8, 9};
        int[] upper = {1, 2, 3, 4};
        for (int a : lower) {
            for (int b : upper) {
                int due = a == 8 && b == 3 ? 2 : 1;
                Due.due("3 below(0, " + a + ", " + b + ")", x.below(0, a, b), due);
                Due.due("3 below(0, " + b + ", " + a + ")", x.below(0, b, a), 0);
            }
        }
        Due.due("3 told(0, 2), what follows and no more", x.told(0, 2), 18);
        // 0 is BELOW 2 already, and is not counted once more.
        x = Make.told(3, 0, 1, 0, 2, 1, 2);
        Due.due("3 told(0, 2), some of it so already", x.told(0, 2), 3);
    }

    /** The most pairs that there are: of ten THINGS 45. */
    private static void allPairsOfTen() {
        HalfOrders x = Make.told(10, 9, 8, 8, 7, 7, 6, 6, 5, 5, 4, 4, 3, 3, 2, 2, 1, 1, 0);
        Due.due("3 told(0, 2)", x.told(0, 2), 45);
        for (int a = 0; a < 10; a++) {
            for (int b = 0; b < a; b++) {
                Due.done("3 pair(0, " + a + ", " + b + ")", x.pair(0, a, b), 0, x);
                Due.refused("3 pair(0, " + b + ", " + a + ")", x.pair(0, b, a), x, 3);
            }
        }
    }

    /** "An ORDER of KIND 0 in which a is BELOW b if b was BELOW a." */
    private static void duals() {
        HalfOrders x = new HalfOrders();
        x.row(10);
        Due.done("10 dual(0), ten", x.dual(0), 1, x);
        Due.due("10 told(1, 0)", x.told(1, 0), 0);
        Due.due("10 told(1, 2)", x.told(1, 2), 45);
        Due.due("10 below(1, 9, 0)", x.below(1, 9, 0), 1);
        Due.due("10 below(1, 9, 8)", x.below(1, 9, 8), 2);
        Due.due("10 below(1, 0, 9)", x.below(1, 0, 9), 0);
        Due.done("10 dual(1), of a dual", x.dual(1), 2, x);
        Due.due("10 below(2, 0, 9)", x.below(2, 0, 9), 1);
        HalfOrders kinds = Make.allKinds();
        for (int order = 1; order < 6; order++) {
            Due.done("10 dual(" + order + ")", kinds.dual(order), 6, kinds);
            Due.due("10 told(6, 0)", kinds.told(6, 0), 0);
            Due.due("10 told(6, 2)", kinds.told(6, 2), kinds.told(order, 2));
            kinds.drop();
        }
    }

    /** "STATUS 1 (also bits of THINGS that are none)". */
    private static void bitsOfAPart() {
        HalfOrders x = new HalfOrders();
        x.row(10);
        x.row(3);
        x.order(0);
        int[] none = {8, 15, 16, 1024, -1, -8, LEAST, MOST};
        for (int bits : none) {
            Due.refused("11 part(1, " + bits + ")", x.part(1, bits), x, 1);
        }
        Due.refused("11 part(0, 1024)", x.part(0, 1024), x, 1);
        Due.refused("11 part(0, 2047)", x.part(0, 2047), x, 1);
        Due.refused("11 part(2, 1)", x.part(2, 1), x, 1);
        Due.due("11 count(0), all refused", x.count(0), 3);
        Due.done("11 part(1, 0), none", x.part(1, 0), 3, x);
        Due.due("11 told(3, 1)", x.told(3, 1), 0);
        Due.done("11 part(1, 7), all", x.part(1, 7), 4, x);
        Due.due("11 told(4, 2)", x.told(4, 2), 3);
        Due.done("11 part(1, 4), the last", x.part(1, 4), 5, x);
        Due.due("11 told(5, 1)", x.told(5, 1), 1);
        Due.done("11 part(0, 1023), ten", x.part(0, 1023), 6, x);
        Due.due("11 told(6, 0)", x.told(6, 0), 0);
        Due.due("11 told(6, 2)", x.told(6, 2), 45);
        Due.done("11 part(0, 513), first and last", x.part(0, 513), 7, x);
        Due.due("11 below(7, 0, 1), NEXT now", x.below(7, 0, 1), 2);
    }

    /** "numbered from 0 in their order": 2, 5 and 9 of ten become 0, 1 and 2. */
    private static void numbersOfAPart() {
        HalfOrders x = Make.told(10, 9, 2, 0, 1, 5, 6);
        Due.done("11 part(0, 548)", x.part(0, 548), 1, x);
        Due.due("11 told(1, 1)", x.told(1, 1), 3);
        Due.due("11 told(1, 2)", x.told(1, 2), 1);
        Due.due("11 below(1, 2, 0)", x.below(1, 2, 0), 2);
        Due.done("11 part(0, 3)", x.part(0, 3), 2, x);
        Due.due("11 below(2, 0, 1)", x.below(2, 0, 1), 2);
    }

    /** What was asked ahead of them does not show in the ORDERS that are made. */
    private static void madeBehindQuestions() {
        HalfOrders x = Make.told(2, 1, 0);
        x.order(10);
        Due.due("19 rowOut(1, 0, 9)", x.rowOut(1, 0, 9), 9);
        Due.done("8 held(0)", x.held(0), 2, x);
        Due.due("8 told(2, 1)", x.told(2, 1), 3);
        Due.due("8 below(2, 0, 1)", x.below(2, 0, 1), 2);
        Due.due("8 below(2, 1, 2)", x.below(2, 1, 2), 2);
        Due.due("8 below(2, 2, 1)", x.below(2, 2, 1), 0);
        Due.due("23 two(1, 1, 9)", x.two(1, 1, 9), 0);
        Due.done("11 part(0, 3)", x.part(0, 3), 3, x);
        Due.due("11 below(3, 1, 0)", x.below(3, 1, 0), 2);
        Due.due("11 below(3, 0, 1)", x.below(3, 0, 1), 0);
    }

    /** "STATUS 3 (there is none)." */
    private static void dropOfNone() {
        HalfOrders x = new HalfOrders();
        Due.refused("12 drop(), none came", x.drop(), x, 3);
        x.order(0);
        Due.done("12 drop()", x.drop(), 0, x);
        Due.refused("12 drop(), none is left", x.drop(), x, 3);
        Due.due("12 count(0)", x.count(0), 0);
        x = Make.orders(8, 1);
        for (int i = 7; i >= 0; i--) {
            Due.done("12 drop()", x.drop(), i, x);
            Due.due("12 count(0)", x.count(0), i);
            Due.due("12 told(" + i + ", 1), no more", x.told(i, 1), -1);
            Due.due("12 told(" + (i - 1) + ", 1)", x.told(i - 1, 1), i == 0 ? -1 : 1);
        }
        Due.refused("12 drop(), none is left of eight", x.drop(), x, 3);
    }

    /** "(THE HAND is empty, if it was laid for it)". */
    private static void dropAndTheHand() {
        HalfOrders x = Make.orders(3, 2);
        x.lay(1, 1);
        x.drop();
        Due.due("12 count(1), laid for another one", x.count(1), 1);
        Due.due("12 count(2), laid for another one", x.count(2), 1);
        x.drop();
        Due.due("12 count(1), laid for it", x.count(1), 0);
        Due.due("12 count(2), laid for it", x.count(2), -1);
        Due.due("12 hand(2)", x.hand(2), -1);
        x.order(2);
        Due.due("12 count(2), another ORDER with its number", x.count(2), -1);
        Due.done("12 lay(0, 1), for another one now", x.lay(0, 1), 1, x);
        Due.done("12 drop(), the HAND is for ORDER 0", x.drop(), 1, x);
        Due.due("12 count(1)", x.count(1), 1);
        Due.done("12 drop()", x.drop(), 0, x);
        Due.done("12 clear()", x.clear(), 0, x);
    }

    /** What drop() does not name stays: SHEETS, THE TRACE, the other ORDERS. */
    private static void dropLeavesTheRest() {
        HalfOrders x = Make.told(2, 0, 1);
        x.row(3);
        x.act(1, 3, 0);
        Make.sheet(x, 2, 1, 7, 8);
        x.drop();
        Due.due("12 count(3)", x.count(3), 8);
        Due.due("12 trace(7)", x.trace(7), 12);
        Due.due("12 told(0, 2)", x.told(0, 2), 1);
        Due.done("12 forge(2, 1, 2)", x.forge(2, 1, 2), 8, x);
        Due.done("12 order(4), with no pairs of the one before", x.order(4), 1, x);
        Due.due("12 told(1, 2)", x.told(1, 2), 0);
        Due.due("12 told(1, 7)", x.told(1, 7), 24);
    }
}
