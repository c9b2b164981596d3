import java.util.ArrayList;
import java.util.List;
import java.util.function.Supplier;

/**
 * "Such calls answer -1 and change nothing else (but round())": each refused call is made on one of
 * two objects that were made alike, and then all that can be seen of both is compared. Questions
 * leave all as it was, and STATUS too.
 */
public final class RefusedCallsTest {
    private interface Call {
        long on(HalfOrders x);
    }

    private static final class Refused {
        final String name;
        final Call call;
        final int status;

        Refused(String name, int status, Call call) {
            this.name = name;
            this.call = call;
            this.status = status;
        }
    }

    private RefusedCallsTest() {
    }

    public static void main(String[] args) {
        refusedByANewObject();
        refusedByABusyOne();
        refusedByAFullOne();
        refusedPairChangesRoundAlone();
        forgeChangesNothing();
        questionsChangeNothing();
        statusOfEachCall();
        statusBehindQuestions();
        Due.end();
    }

    /** ORDERS of all KINDS, a HAND, round(), a TRACE, SHEETS of all sorts and a missing one. */
    private static HalfOrders busy() {
        HalfOrders x = Make.allKinds();
        Make.sheet(x, 0, 0, 0, 1, 1, 2);
        Make.sheet(x, 1, 1, 3, 4, 5);
        Make.sheet(x, 2, 2, 6, 7, 8, 9);
        x.act(3, 3, 9);
        x.lay(5, 0);
        x.lay(5, 1);
        Make.tell(x, 0, 1, 0);
        Due.refused("3 pair(0, 0, 1)", x.pair(0, 0, 1), x, 3);
        return x;
    }

    private static HalfOrders full() {
        HalfOrders x = busy();
        Due.done("30 clear()", x.clear(), 2, x);
        Due.done("2 order(5)", x.order(5), 6, x);
        Due.done("9 row(6)", x.row(6), 7, x);
        for (int i = 0; i < 4; i++) {
            Due.done("29 lay(2, ..)", x.lay(2, 3 - i), 1 + i, x);
        }
        return x;
    }

    private static void alike(String name, HalfOrders x, HalfOrders y, Seen.Part part) {
        String mine = part.of(x);
        String due = part.of(y);
        Due.due(name + ": " + mine + " where due is " + due, mine.equals(due) ? 1 : 0, 1);
    }

    private static void changesNothing(Supplier<HalfOrders> make, Refused refused) {
        for (Seen.Part part : Seen.parts()) {
            HalfOrders x = make.get();
            Due.refused(refused.name, refused.call.on(x), x, refused.status);
            alike("behind " + refused.name, x, make.get(), part);
        }
    }

    private static void refusedByANewObject() {
        List<Refused> calls = new ArrayList<>();
        calls.add(new Refused("order(11)", 1, x -> x.order(11)));
        calls.add(new Refused("pair(0, 0, 1)", 1, x -> x.pair(0, 0, 1)));
        calls.add(new Refused("stack(0, 0)", 1, x -> x.stack(0, 0)));
        calls.add(new Refused("beside(0, 0)", 1, x -> x.beside(0, 0)));
        calls.add(new Refused("times(0, 0)", 1, x -> x.times(0, 0)));
        calls.add(new Refused("held(0)", 1, x -> x.held(0)));
        calls.add(new Refused("row(-1)", 1, x -> x.row(-1)));
        calls.add(new Refused("dual(0)", 1, x -> x.dual(0)));
        calls.add(new Refused("part(0, 0)", 1, x -> x.part(0, 0)));
        calls.add(new Refused("drop()", 3, HalfOrders::drop));
        calls.add(new Refused("lay(0, 0)", 1, x -> x.lay(0, 0)));
        calls.add(new Refused("lay(-1, 0)", 1, x -> x.lay(-1, 0)));
        calls.add(new Refused("act(0, 0, 0)", 1, x -> x.act(0, 0, 0)));
        calls.add(new Refused("sheet(4, 0, 1)", 1, x -> x.sheet(4, 0, 1)));
        calls.add(new Refused("cell(0, 0, 0)", 10, x -> x.cell(0, 0, 0)));
        calls.add(new Refused("pairs(0, 0, 0, 0)", 1, x -> x.pairs(0, 0, 0, 0)));
        calls.add(new Refused("forge(0, 0, 0)", 10, x -> x.forge(0, 0, 0)));
        for (Refused call : calls) {
            changesNothing(HalfOrders::new, call);
        }
    }

    private static void refusedByABusyOne() {
        List<Refused> calls = new ArrayList<>();
        addOrderCalls(calls);
        addHandAndActCalls(calls);
        addSheetCalls(calls);
        addForgeCalls(calls);
        for (Refused call : calls) {
            changesNothing(RefusedCallsTest::busy, call);
        }
    }

    private static void addOrderCalls(List<Refused> calls) {
        calls.add(new Refused("order(-1)", 1, x -> x.order(-1)));
        calls.add(new Refused("order(11)", 1, x -> x.order(11)));
        calls.add(new Refused("pair(6, 0, 1)", 1, x -> x.pair(6, 0, 1)));
        calls.add(new Refused("pair(0, 0, 2)", 1, x -> x.pair(0, 0, 2)));
        calls.add(new Refused("pair(0, -1, 0)", 1, x -> x.pair(0, -1, 0)));
        calls.add(new Refused("pair(0, 1, 1)", 1, x -> x.pair(0, 1, 1)));
        calls.add(new Refused("pair(1, 0, 1)", 3, x -> x.pair(1, 0, 1)));
        calls.add(new Refused("pair(2, 0, 3)", 3, x -> x.pair(2, 0, 3)));
        calls.add(new Refused("stack(0, 6)", 1, x -> x.stack(0, 6)));
        calls.add(new Refused("beside(6, 0)", 1, x -> x.beside(6, 0)));
        calls.add(new Refused("times(-1, 0)", 1, x -> x.times(-1, 0)));
        calls.add(new Refused("times(1, 5), twelve", 2, x -> x.times(1, 5)));
        calls.add(new Refused("held(6)", 1, x -> x.held(6)));
        calls.add(new Refused("held(2), sixteen", 2, x -> x.held(2)));
        calls.add(new Refused("row(11)", 1, x -> x.row(11)));
        calls.add(new Refused("dual(6)", 1, x -> x.dual(6)));
        calls.add(new Refused("part(6, 0)", 1, x -> x.part(6, 0)));
        calls.add(new Refused("part(0, 4)", 1, x -> x.part(0, 4)));
    }

    private static void addHandAndActCalls(List<Refused> calls) {
        calls.add(new Refused("lay(6, 0)", 1, x -> x.lay(6, 0)));
        calls.add(new Refused("lay(5, 3)", 1, x -> x.lay(5, 3)));
        calls.add(new Refused("lay(5, 0)", 3, x -> x.lay(5, 0)));
        calls.add(new Refused("lay(0, 1)", 3, x -> x.lay(0, 1)));
        calls.add(new Refused("act(6, 0, 1)", 1, x -> x.act(6, 0, 1)));
        calls.add(new Refused("act(0, 4, 1)", 1, x -> x.act(0, 4, 1)));
    }

    private static void addSheetCalls(List<Refused> calls) {
        calls.add(new Refused("sheet(4, 0, 1)", 1, x -> x.sheet(4, 0, 1)));
        calls.add(new Refused("sheet(0, 3, 1)", 1, x -> x.sheet(0, 3, 1)));
        calls.add(new Refused("sheet(0, -2, 1)", 1, x -> x.sheet(0, -2, 1)));
        calls.add(new Refused("sheet(3, 0, 21)", 1, x -> x.sheet(3, 0, 21)));
        calls.add(new Refused("sheet(3, 0, -1)", 1, x -> x.sheet(3, 0, -1)));
        calls.add(new Refused("cell(4, 0, 1)", 1, x -> x.cell(4, 0, 1)));
        calls.add(new Refused("cell(0, 0, 101)", 1, x -> x.cell(0, 0, 101)));
        calls.add(new Refused("cell(1, 0, -1)", 1, x -> x.cell(1, 0, -1)));
        calls.add(new Refused("cell(3, 0, 1)", 10, x -> x.cell(3, 0, 1)));
        calls.add(new Refused("cell(1, 3, 1)", 12, x -> x.cell(1, 3, 1)));
        calls.add(new Refused("cell(1, -1, 1)", 12, x -> x.cell(1, -1, 1)));
        calls.add(new Refused("pairs(6, 0, 0, 1)", 1, x -> x.pairs(6, 0, 0, 1)));
        calls.add(new Refused("pairs(0, 4, 0, 1)", 1, x -> x.pairs(0, 4, 0, 1)));
        calls.add(new Refused("pairs(0, 0, 3, 1)", 1, x -> x.pairs(0, 0, 3, 1)));
        calls.add(new Refused("pairs(0, 0, 0, 11)", 1, x -> x.pairs(0, 0, 0, 11)));
        calls.add(new Refused("pairs(2, 0, 0, 1)", 3, x -> x.pairs(2, 0, 0, 1)));
        calls.add(new Refused("pairs(0, 3, 0, 1)", 10, x -> x.pairs(0, 3, 0, 1)));
        calls.add(new Refused("pairs(0, 0, 1, 1)", 11, x -> x.pairs(0, 0, 1, 1)));
        calls.add(new Refused("pairs(0, 0, 0, 3)", 12, x -> x.pairs(0, 0, 0, 3)));
    }

    private static void addForgeCalls(List<Refused> calls) {
        calls.add(new Refused("forge(7, 0, 0)", 1, x -> x.forge(7, 0, 0)));
        calls.add(new Refused("forge(0, 101, 0)", 1, x -> x.forge(0, 101, 0)));
        calls.add(new Refused("forge(0, 0, 6)", 10, x -> x.forge(0, 0, 6)));
        calls.add(new Refused("forge(0, 4, 5)", 11, x -> x.forge(0, 4, 5)));
        calls.add(new Refused("forge(1, -1, 0)", 13, x -> x.forge(1, -1, 0)));
        calls.add(new Refused("forge(2, 0, 3)", 10, x -> x.forge(2, 0, 3)));
        calls.add(new Refused("forge(2, 0, 0)", 11, x -> x.forge(2, 0, 0)));
        calls.add(new Refused("forge(2, 3, 1)", 12, x -> x.forge(2, 3, 1)));
        calls.add(new Refused("forge(3, 0, 3)", 10, x -> x.forge(3, 0, 3)));
        calls.add(new Refused("forge(3, 0, 1)", 11, x -> x.forge(3, 0, 1)));
        calls.add(new Refused("forge(3, 4, 0)", 12, x -> x.forge(3, 4, 0)));
        calls.add(new Refused("forge(4, 0, 0)", 14, x -> x.forge(4, 0, 0)));
        calls.add(new Refused("forge(5, 0, 0)", 15, x -> x.forge(5, 0, 0)));
        calls.add(new Refused("forge(6, 0, 0)", 10, x -> x.forge(6, 0, 0)));
    }

    private static void refusedByAFullOne() {
        List<Refused> calls = new ArrayList<>();
        calls.add(new Refused("order(0), the ninth", 2, x -> x.order(0)));
        calls.add(new Refused("stack(0, 1), the ninth", 2, x -> x.stack(0, 1)));
        calls.add(new Refused("beside(0, 1), the ninth", 2, x -> x.beside(0, 1)));
        calls.add(new Refused("times(0, 1), the ninth", 2, x -> x.times(0, 1)));
        calls.add(new Refused("held(0), the ninth", 2, x -> x.held(0)));
        calls.add(new Refused("row(3), the ninth", 2, x -> x.row(3)));
        calls.add(new Refused("dual(0), the ninth", 2, x -> x.dual(0)));
        calls.add(new Refused("part(0, 1), the ninth", 2, x -> x.part(0, 1)));
        calls.add(new Refused("part(0, 4), the ninth", 1, x -> x.part(0, 4)));
        calls.add(new Refused("stack(0, 8), the ninth", 1, x -> x.stack(0, 8)));
        calls.add(new Refused("lay(2, 0), all are in it", 3, x -> x.lay(2, 0)));
        calls.add(new Refused("lay(7, 5), for another one", 3, x -> x.lay(7, 5)));
        calls.add(new Refused("act(8, 0, 0)", 1, x -> x.act(8, 0, 0)));
        for (Refused call : calls) {
            changesNothing(RefusedCallsTest::full, call);
        }
    }

    /** "change nothing else (but round())". */
    private static void refusedPairChangesRoundAlone() {
        Supplier<HalfOrders> make = () -> {
            HalfOrders x = busy();
            Due.done("2 order(3)", x.order(3), 6, x);
            Make.tell(x, 6, 2, 1, 1, 0);
            return x;
        };
        for (Seen.Part part : Seen.parts()) {
            HalfOrders x = make.get();
            Due.refused("3 pair(6, 0, 2)", x.pair(6, 0, 2), x, 3);
            HalfOrders y = make.get();
            String mine = part.of(x);
            String due = part.of(y);
            if (due.startsWith("round:")) {
                due = "round: 2 1 0 -1 -1 -1 -1 -1 -1 -1 -1";
            }
            Due.due("behind pair(6, 0, 2): " + mine + " where due is " + due, mine.equals(due) ? 1 : 0, 1);
        }
    }

    /** What the host does is done with nothing of the object's own. */
    private static void forgeChangesNothing() {
        Call[] calls = {
            x -> x.forge(0, 5, 5), x -> x.forge(1, 100, 0), x -> x.forge(2, 2, 1), x -> x.forge(3, 3, 0),
            x -> x.forge(4, 0, 3), x -> x.forge(4, 0, 7), x -> x.forge(5, 7, 0), x -> x.forge(6, 1, 0),
            x -> x.pairs(0, 0, 0, 0), x -> x.pairs(0, 3, 2, 0)};
        int[] due = {5, 100, 5, 4, 3, 0, 142, 1, 0, 0};
        for (int i = 0; i < calls.length; i++) {
            for (Seen.Part part : Seen.parts()) {
                HalfOrders x = busy();
                Due.done("call " + i + " that changes nothing", calls[i].on(x), due[i], x);
                alike("behind call " + i, x, busy(), part);
            }
        }
    }

    private static List<Call> questions() {
        List<Call> calls = new ArrayList<>();
        for (int at : new int[] {-1, 0, 1, 2, 5, 6, 9, Integer.MIN_VALUE, Integer.MAX_VALUE}) {
            calls.add(x -> x.round(at));
            calls.add(x -> x.told(2, at));
            calls.add(x -> x.told(at, 8));
            calls.add(x -> x.count(at));
            calls.add(x -> x.below(2, at, 0));
            calls.add(x -> x.widest(at));
            calls.add(x -> x.of(2, at, 0));
            calls.add(x -> x.of(2, 0, at));
            calls.add(x -> x.low(2, at));
            calls.add(x -> x.rowOut(2, at, 1));
            calls.add(x -> x.before(2, at, 1));
            calls.add(x -> x.places(2, at));
            calls.add(x -> x.fair(at));
            calls.add(x -> x.two(at, 1, 0));
            calls.add(x -> x.two(2, 1, at));
            calls.add(x -> x.invert(at, 0, 1));
            calls.add(x -> x.bound(1, at, 1, 1));
            calls.add(x -> x.uneven(at));
            calls.add(x -> x.bent(at));
            calls.add(x -> x.same(1, 2, at));
            calls.add(x -> x.same(at, at, 1));
            calls.add(x -> x.hand(at));
            calls.add(x -> x.unlike(at));
            calls.add(x -> x.trace(at));
            calls.add(x -> x.status());
        }
        calls.add(x -> x.told(2, 10) + x.told(2, 12) + x.told(2, 11));
        return calls;
    }

    private static void questionsChangeNothing() {
        List<Supplier<HalfOrders>> makers = List.of(RefusedCallsTest::busy, RefusedCallsTest::full);
        for (Supplier<HalfOrders> make : makers) {
            for (Seen.Part part : Seen.parts()) {
                HalfOrders x = make.get();
                int had = x.status();
                for (Call question : questions()) {
                    question.on(x);
                }
                Due.due("39 status() behind all questions", x.status(), had);
                alike("behind all questions", x, make.get(), part);
            }
        }
    }

    /** "STATUS of the latest call that is no question (order, pair, .., forge)": each of these, done and refused. */
    private static void statusOfEachCall() {
        Call[] done = {
            x -> x.order(1), x -> x.pair(0, 1, 0), x -> x.stack(0, 0), x -> x.beside(0, 0), x -> x.times(0, 0),
            x -> x.held(0), x -> x.row(1), x -> x.dual(0), x -> x.part(0, 1), HalfOrders::drop, x -> x.lay(5, 2),
            HalfOrders::clear, x -> x.sheet(0, 0, 1), x -> x.cell(1, 0, 1), x -> x.pairs(0, 0, 0, 1),
            x -> x.act(0, 0, 1), x -> x.forge(1, 1, 1)};
        Call[] refused = {
            x -> x.order(11), x -> x.pair(0, 1, 1), x -> x.stack(0, 6), x -> x.beside(0, 6), x -> x.times(0, 6),
            x -> x.held(6), x -> x.row(11), x -> x.dual(6), x -> x.part(0, 4), null, x -> x.lay(5, 3), null,
            x -> x.sheet(4, 0, 1), x -> x.cell(1, 0, 101), x -> x.pairs(0, 0, 0, 11), x -> x.act(0, 4, 1),
            x -> x.forge(7, 1, 1)};
        for (int i = 0; i < done.length; i++) {
            HalfOrders x = busy();
            Due.due("39 status(), as it was", x.status(), 3);
            done[i].on(x);
            Due.due("39 status() behind done call " + i, x.status(), 0);
            HalfOrders y = busy();
            if (refused[i] != null) {
                Due.due("39 refused call " + i, refused[i].on(y), -1);
                Due.due("39 status() behind refused call " + i, y.status(), 1);
            }
        }
        HalfOrders none = new HalfOrders();
        none.clear();
        Due.due("39 drop(), none", none.drop(), -1);
        Due.due("39 status() behind drop(), none", none.status(), 3);
    }

    /** Each question by itself leaves each STATUS, also where it answers that there is none such. */
    private static void statusBehindQuestions() {
        Call[] lasts = {
            HalfOrders::clear, x -> x.order(11), x -> x.held(2), x -> x.lay(0, 0), x -> x.cell(3, 0, 1),
            x -> x.forge(0, 4, 5), x -> x.cell(1, 3, 1), x -> x.forge(1, -1, 0), x -> x.forge(4, 0, 0),
            x -> x.forge(5, 0, 0)};
        int[] due = {0, 1, 2, 3, 10, 11, 12, 13, 14, 15};
        for (int i = 0; i < lasts.length; i++) {
            HalfOrders x = busy();
            lasts[i].on(x);
            Due.due("39 status(), the last call was " + i, x.status(), due[i]);
            // Two calls for each question, and an object is good for 512.
            for (Call question : questions().subList(0, 200)) {
                question.on(x);
                Due.due("39 status() behind a question", x.status(), due[i]);
            }
        }
    }
}
