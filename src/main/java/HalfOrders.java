import java.util.Arrays;

/** Half orders of up to ten things, with all that ../shared/DOC.md promises of them. */
public final class HalfOrders {
    public static final int NONE = -1;

    private static final int MOST_ORDERS = 8;
    private static final int MOST_THINGS = 10;
    private static final int SETS_OF_THINGS = 1024;
    private static final int MOST_BODIES = 60;
    private static final int SHEETS = 4;
    private static final int MOST_NUMBERS = 20;
    private static final int MOST_CELL = 100;
    private static final int MOST_PAIRS = 10;
    private static final int MISSING = -1;
    private static final int LAST_SORT = 2;
    private static final int KINDS = 6;
    private static final int FORGE_REACH = 100;
    private static final int COPY_ROOM = 6;
    private static final int MARK_TURNS = 3;
    private static final int NO_INVERSE = -1000000;
    private static final int NO_SUCH_BOUND = -2;

    private static final int DONE = 0;
    private static final int BAD_NUMBER = 1;
    private static final int NO_ROOM = 2;
    private static final int NOT_SO = 3;
    private static final int NOTHING_THERE = 10;
    private static final int OTHER_SORT = 11;
    private static final int PLACE_OUTSIDE = 12;
    private static final int SIZE_BELOW_ZERO = 13;
    private static final int DOES_NOT_FIT = 14;
    private static final int BY_ZERO = 15;

    private final Order[] orders = new Order[MOST_ORDERS];
    private int orderCount = 0;
    private final Line refusedPath = new Line(MOST_THINGS);
    private final Line laid = new Line(MOST_THINGS);
    private int laidFor = NONE;
    private final Line bodies = new Line(MOST_BODIES);
    private final Sheet[] sheets = new Sheet[SHEETS];
    private final RowsOut rowsOut = new RowsOut();
    private final Bounds bounds = new Bounds();
    private final Search search = new Search();
    private final Line scratch = new Line(MOST_THINGS);
    private int latest = DONE;

    public HalfOrders() {
        for (int i = 0; i < SHEETS; i++) {
            sheets[i] = new Sheet();
        }
    }

    // Making and dropping ORDERS

    public int order(int n) {
        if (n < 0 || n > MOST_THINGS) {
            return refuse(BAD_NUMBER);
        }
        if (!hasRoom(n)) {
            return refuse(NO_ROOM);
        }
        return take(new Order(orderCount, n));
    }

    public int pair(int order, int a, int b) {
        Order o = find(order);
        if (o == null || !o.hasThings(a, b) || a == b) {
            return refuse(BAD_NUMBER);
        }
        if (o.kind() != 0) {
            return refuse(NOT_SO);
        }
        if (o.isBelow(b, a)) {
            o.findPath(b, a, refusedPath);
            return refuse(NOT_SO);
        }
        refusedPath.empty();
        return answer(o.tellPair(a, b) ? 1 : 0);
    }

    public int round(int i) {
        return refusedPath.at(i);
    }

    public int stack(int a, int b) {
        Order first = find(a);
        Order second = find(b);
        if (first == null || second == null) {
            return refuse(BAD_NUMBER);
        }
        if (!hasRoom(first.n + second.n)) {
            return refuse(NO_ROOM);
        }
        Order made = new Stack(orderCount, first.n + second.n);
        made.copyPairs(first, 0);
        made.copyPairs(second, first.n);
        for (int x = 0; x < first.n; x++) {
            for (int y = first.n; y < made.n; y++) {
                made.mark(x, y);
            }
        }
        return take(made);
    }

    public int beside(int a, int b) {
        Order first = find(a);
        Order second = find(b);
        if (first == null || second == null) {
            return refuse(BAD_NUMBER);
        }
        if (!hasRoom(first.n + second.n)) {
            return refuse(NO_ROOM);
        }
        Order made = new Beside(orderCount, first.n + second.n);
        made.copyPairs(first, 0);
        made.copyPairs(second, first.n);
        return take(made);
    }

    public int times(int a, int b) {
        Order first = find(a);
        Order second = find(b);
        if (first == null || second == null) {
            return refuse(BAD_NUMBER);
        }
        if (!hasRoom(first.n * second.n)) {
            return refuse(NO_ROOM);
        }
        Order made = new Times(orderCount, first.n * second.n);
        for (int x = 0; x < first.n; x++) {
            for (int y = 0; y < second.n; y++) {
                markAllOver(made, first, second, x, y);
            }
        }
        return take(made);
    }

    public int held(int a) {
        Order o = find(a);
        if (o == null) {
            return refuse(BAD_NUMBER);
        }
        int n = rowsOut.lowSetCount(o);
        if (!hasRoom(n)) {
            return refuse(NO_ROOM);
        }
        rowsOut.listLowSets(o, scratch);
        Order made = new Held(orderCount, n);
        for (int i = 0; i < n; i++) {
            for (int j = 0; j < n; j++) {
                if (i != j && (scratch.at(i) & ~scratch.at(j)) == 0) {
                    made.mark(i, j);
                }
            }
        }
        return take(made);
    }

    public int row(int n) {
        if (n < 0 || n > MOST_THINGS) {
            return refuse(BAD_NUMBER);
        }
        if (!hasRoom(n)) {
            return refuse(NO_ROOM);
        }
        Order made = new Row(orderCount, n);
        for (int a = 0; a < n; a++) {
            for (int b = a + 1; b < n; b++) {
                made.mark(a, b);
            }
        }
        return take(made);
    }

    public int dual(int a) {
        Order o = find(a);
        if (o == null) {
            return refuse(BAD_NUMBER);
        }
        if (!hasRoom(o.n)) {
            return refuse(NO_ROOM);
        }
        Order made = new Order(orderCount, o.n);
        for (int x = 0; x < o.n; x++) {
            for (int y = 0; y < o.n; y++) {
                if (o.isBelow(x, y)) {
                    made.mark(y, x);
                }
            }
        }
        return take(made);
    }

    public int part(int a, int bits) {
        Order o = find(a);
        if (o == null || (bits & ~o.all()) != 0) {
            return refuse(BAD_NUMBER);
        }
        int n = Integer.bitCount(bits);
        if (!hasRoom(n)) {
            return refuse(NO_ROOM);
        }
        listBits(bits, scratch);
        Order made = new Order(orderCount, n);
        for (int i = 0; i < n; i++) {
            for (int j = 0; j < n; j++) {
                if (o.isBelow(scratch.at(i), scratch.at(j))) {
                    made.mark(i, j);
                }
            }
        }
        return take(made);
    }

    public int drop() {
        if (orderCount == 0) {
            return refuse(NOT_SO);
        }
        orderCount--;
        orders[orderCount] = null;
        refusedPath.empty();
        if (laidFor == orderCount) {
            emptyHand();
        }
        return answer(orderCount);
    }

    // Questions about ORDERS

    public int told(int order, int what) {
        Order o = find(order);
        if (o == null) {
            return NONE;
        }
        switch (what) {
            case 0: return o.kind();
            case 1: return o.n;
            case 2: return o.pairCount;
            case 3: return o.nextCount();
            case 4: return rowsOut.lowSetCount(o);
            case 5: return Integer.bitCount(o.widestBits());
            case 6: return o.height();
            case 7: return rowsOut.total(o);
            case 8: return rowsOut.leastJumps(o);
            case 9: return bounds.isLattice(o) ? 1 : 0;
            case 10: return bounds.isLattice(o) && bounds.firstUneven(o) == NONE ? 1 : 0;
            case 11: return o.firstBent() == NONE ? 1 : 0;
            case 12: return search.findTwo(o) ? 1 : 0;
            default: return NONE;
        }
    }

    public int count(int what) {
        switch (what) {
            case 0: return orderCount;
            case 1: return laid.size;
            case 2: return laidFor;
            case 3: return bodies.size;
            default: return NONE;
        }
    }

    public int below(int order, int a, int b) {
        Order o = find(order);
        if (o == null || !o.hasThings(a, b)) {
            return NONE;
        }
        if (o.isNext(a, b)) {
            return 2;
        }
        return o.isBelow(a, b) ? 1 : 0;
    }

    public int widest(int order) {
        Order o = find(order);
        return o == null ? NONE : o.widestBits();
    }

    public int of(int order, int thing, int what) {
        Order o = find(order);
        if (o == null || !o.hasThing(thing)) {
            return NONE;
        }
        switch (what) {
            case 0: return search.chainOf(o, thing);
            case 1: return o.layer(thing);
            default: return NONE;
        }
    }

    public int low(int order, int i) {
        Order o = find(order);
        return o == null ? NONE : rowsOut.lowSet(o, i);
    }

    public int rowOut(int order, int rank, int i) {
        Order o = find(order);
        if (o == null || !rowsOut.hasRank(o, rank)) {
            return NONE;
        }
        rowsOut.tellRow(o, rank, scratch);
        return scratch.at(i);
    }

    public int before(int order, int a, int b) {
        Order o = find(order);
        if (o == null || !o.hasThings(a, b) || a == b) {
            return NONE;
        }
        return rowsOut.aheadCount(o, a, b);
    }

    public long places(int order, int thing) {
        Order o = find(order);
        if (o == null || !o.hasThing(thing)) {
            return NONE;
        }
        return rowsOut.placeSum(o, thing);
    }

    public int fair(int order) {
        Order o = find(order);
        return o == null ? NONE : rowsOut.firstFair(o);
    }

    public int two(int order, int which, int i) {
        Order o = find(order);
        if (o == null || which < 0 || which > 1 || !search.findTwo(o)) {
            return NONE;
        }
        if (which == 0) {
            return search.firstRow.at(i);
        }
        search.turnFirstRow(o, scratch);
        return scratch.at(i);
    }

    public int invert(int order, int a, int b) {
        Order o = find(order);
        if (o == null || !o.hasThings(a, b)) {
            return NO_INVERSE;
        }
        return bounds.inverse(o, a, b);
    }

    public int bound(int order, int a, int b, int way) {
        Order o = find(order);
        if (o == null || !o.hasThings(a, b)) {
            return NO_SUCH_BOUND;
        }
        switch (way) {
            case 0: return o.leastAbove(a, b);
            case 1: return o.greatestUnder(a, b);
            default: return NO_SUCH_BOUND;
        }
    }

    public int uneven(int order) {
        Order o = find(order);
        if (o == null || !bounds.isLattice(o)) {
            return NONE;
        }
        return bounds.firstUneven(o);
    }

    public int bent(int order) {
        Order o = find(order);
        return o == null ? NONE : o.firstBent();
    }

    public int same(int order, int other, int a) {
        Order o = find(order);
        Order p = find(other);
        if (o == null || p == null || !o.hasThing(a)) {
            return NONE;
        }
        return search.imageOf(o, p, a);
    }

    // THE HAND

    public int lay(int order, int thing) {
        Order o = find(order);
        if (o == null || !o.hasThing(thing)) {
            return refuse(BAD_NUMBER);
        }
        if (laid.size > 0 && (laidFor != order || laid.has(thing))) {
            return refuse(NOT_SO);
        }
        laidFor = order;
        laid.add(thing);
        return answer(laid.size);
    }

    public int clear() {
        int had = laid.size;
        emptyHand();
        return answer(had);
    }

    public int hand(int what) {
        Order o = find(laidFor);
        if (o == null) {
            return NONE;
        }
        switch (what) {
            case 0: return rowsOut.isRowOut(o, laid) ? rowsOut.rankOf(o, laid) : NONE;
            case 1: return rowsOut.isRowOut(o, laid) ? rowsOut.jumpsOf(o, laid) : NONE;
            case 2: return rowsOut.firstLack(o, laid);
            default: return NONE;
        }
    }

    public int unlike(int rank) {
        Order o = find(laidFor);
        if (o == null || !rowsOut.isRowOut(o, laid) || !rowsOut.hasRank(o, rank)) {
            return NONE;
        }
        rowsOut.tellRow(o, rank, scratch);
        int found = 0;
        for (int i = 0; i < laid.size; i++) {
            for (int j = i + 1; j < laid.size; j++) {
                if (scratch.placeOf(laid.at(i)) > scratch.placeOf(laid.at(j))) {
                    found++;
                }
            }
        }
        return found;
    }

    // ACTS

    public int act(int order, int act, int x) {
        Order o = find(order);
        if (o == null || act < 0 || act > 3) {
            return refuse(BAD_NUMBER);
        }
        bodies.empty();
        switch (act) {
            case 0: return answer(o.lookAct(x, bodies));
            case 1: return answer(o.partAct(x, bodies));
            case 2: return answer(o.joinAct(x, bodies));
            default: return answer(o.tellAct(x, bodies));
        }
    }

    public int trace(int i) {
        return bodies.at(i);
    }

    // SHEETS and what the host refuses

    public int sheet(int sheet, int sort, int n) {
        Sheet s = findSheet(sheet);
        if (s == null || sort < MISSING || sort > LAST_SORT) {
            return refuse(BAD_NUMBER);
        }
        if (sort != MISSING && (n < 0 || n > MOST_NUMBERS)) {
            return refuse(BAD_NUMBER);
        }
        s.renew(sort, sort == MISSING ? 0 : n);
        return answer(1);
    }

    public int cell(int sheet, int i, int v) {
        Sheet s = findSheet(sheet);
        if (s == null || v < 0 || v > MOST_CELL) {
            return refuse(BAD_NUMBER);
        }
        if (s.isMissing()) {
            return refuse(NOTHING_THERE);
        }
        if (!s.hasPlace(i)) {
            return refuse(PLACE_OUTSIDE);
        }
        s.numbers[i] = v;
        return answer(1);
    }

    public int pairs(int order, int sheet, int sort, int n) {
        Order o = find(order);
        Sheet s = findSheet(sheet);
        if (o == null || s == null || sort < 0 || sort > LAST_SORT || n < 0 || n > MOST_PAIRS) {
            return refuse(BAD_NUMBER);
        }
        if (o.kind() != 0) {
            return refuse(NOT_SO);
        }
        if (n == 0) {
            return answer(0);
        }
        int why = s.whyNotOf(sort);
        if (why == DONE && 2 * n > s.size) {
            why = PLACE_OUTSIDE;
        }
        return why == DONE ? answer(tellPairs(o, s, n)) : refuse(why);
    }

    public int forge(int what, int n, int k) {
        if (n < -FORGE_REACH || n > FORGE_REACH || k < -FORGE_REACH || k > FORGE_REACH) {
            return refuse(BAD_NUMBER);
        }
        switch (what) {
            case 0: return takeForKind(find(Math.floorMod(k, MOST_ORDERS)), Math.floorMod(n, KINDS));
            case 1: return n < 0 ? refuse(SIZE_BELOW_ZERO) : answer(n);
            case 2: return readShort(findSheet(Math.floorMod(k, SHEETS)), n);
            case 3: return copyBytes(findSheet(Math.floorMod(k, SHEETS)), n);
            case 4: return putAmongStacks(find(Math.floorMod(k, MOST_ORDERS)));
            case 5: return n == 0 ? refuse(BY_ZERO) : answer(1000 / n);
            case 6: return Math.floorMod(n, 2) == 0 ? refuse(NOTHING_THERE) : answer(1);
            default: return refuse(BAD_NUMBER);
        }
    }

    public int status() {
        return latest;
    }

    // Helpers of the calls above

    private int refuse(int why) {
        latest = why;
        return NONE;
    }

    private int answer(int what) {
        latest = DONE;
        return what;
    }

    private Order find(int number) {
        return number >= 0 && number < orderCount ? orders[number] : null;
    }

    private Sheet findSheet(int number) {
        return number >= 0 && number < SHEETS ? sheets[number] : null;
    }

    private boolean hasRoom(int n) {
        return orderCount < MOST_ORDERS && n <= MOST_THINGS;
    }

    private int take(Order made) {
        if (orderCount >= MOST_ORDERS) {
            return refuse(NO_ROOM);
        }
        orders[orderCount] = made;
        orderCount++;
        return answer(orderCount - 1);
    }

    private void emptyHand() {
        laid.empty();
        laidFor = NONE;
    }

    private static void markAllOver(Order made, Order first, Order second, int x, int y) {
        for (int v = 0; v < first.n; v++) {
            for (int w = 0; w < second.n; w++) {
                boolean ofFirst = x == v || first.isBelow(x, v);
                boolean ofSecond = y == w || second.isBelow(y, w);
                if (ofFirst && ofSecond && (x != v || y != w)) {
                    made.mark(x * second.n + y, v * second.n + w);
                }
            }
        }
    }

    private static void listBits(int bits, Line into) {
        into.empty();
        for (int t = 0; t < MOST_THINGS; t++) {
            if ((bits >> t & 1) != 0) {
                into.add(t);
            }
        }
    }

    private static int tellPairs(Order o, Sheet s, int n) {
        for (int i = 0; i < n; i++) {
            int a = s.numberAt(2 * i);
            int b = s.numberAt(2 * i + 1);
            if (!o.hasThings(a, b) || a == b || o.isBelow(b, a)) {
                return i;
            }
            o.tellPair(a, b);
        }
        return n;
    }

    private int takeForKind(Order o, int kind) {
        if (o == null) {
            return refuse(NOTHING_THERE);
        }
        return isOfKind(o, kind) ? answer(o.kind()) : refuse(OTHER_SORT);
    }

    private static boolean isOfKind(Order o, int kind) {
        switch (kind) {
            case 0: return true;
            case 1: return o instanceof Stack;
            case 2: return o instanceof Beside;
            case 3: return o instanceof Times;
            case 4: return o instanceof Held;
            case 5: return o instanceof Row;
            default: return false;
        }
    }

    private int readShort(Sheet s, int i) {
        if (s == null) {
            return refuse(NOTHING_THERE);
        }
        int why = s.whyNotOf(1);
        if (why == DONE && !s.hasPlace(i)) {
            why = PLACE_OUTSIDE;
        }
        return why == DONE ? answer(s.numberAt(i)) : refuse(why);
    }

    private int copyBytes(Sheet s, int n) {
        if (s == null) {
            return refuse(NOTHING_THERE);
        }
        int why = s.whyNotOf(0);
        // The host looks at place 1 even if it copies none: so a SHEET without numbers is too short.
        if (why == DONE && (n < 0 || 1 + n > s.size || n + n > COPY_ROOM)) {
            why = PLACE_OUTSIDE;
        }
        return why == DONE ? answer(s.sumOf(1, n)) : refuse(why);
    }

    private int putAmongStacks(Order o) {
        // Any row takes nothing at all, as the host's do.
        if (o == null) {
            return answer(0);
        }
        return o instanceof Stack ? answer(o.kind()) : refuse(DOES_NOT_FIT);
    }

    /** A row of numbers that is made once and filled again and again. */
    static final class Line {
        private final int[] items;
        int size = 0;

        Line(int most) {
            items = new int[Math.max(most, 0)];
        }

        void empty() {
            size = 0;
        }

        void add(int item) {
            if (size < items.length) {
                items[size] = item;
                size++;
            }
        }

        void takeLast() {
            if (size > 0) {
                size--;
            }
        }

        int at(int i) {
            return i >= 0 && i < size ? items[i] : NONE;
        }

        int placeOf(int item) {
            for (int i = 0; i < size; i++) {
                if (items[i] == item) {
                    return i;
                }
            }
            return NONE;
        }

        boolean has(int item) {
            return placeOf(item) != NONE;
        }
    }

    /** A SHEET: its place is made once, it comes and goes. */
    static final class Sheet {
        final int[] numbers = new int[MOST_NUMBERS];
        int sort = MISSING;
        int size = 0;

        void renew(int newSort, int n) {
            Arrays.fill(numbers, 0);
            sort = newSort;
            size = Math.min(n, MOST_NUMBERS);
        }

        boolean isMissing() {
            return sort == MISSING;
        }

        boolean hasPlace(int i) {
            return i >= 0 && i < size;
        }

        int numberAt(int i) {
            return hasPlace(i) ? numbers[i] : NONE;
        }

        int sumOf(int from, int many) {
            int sum = 0;
            for (int i = from; i < from + many; i++) {
                sum += numberAt(i);
            }
            return sum;
        }

        int whyNotOf(int asked) {
            if (isMissing()) {
                return NOTHING_THERE;
            }
            return sort == asked ? DONE : OTHER_SORT;
        }
    }

    /** KIND 0, and what all KINDS share. The THINGS BELOW and over each THING are kept as bits. */
    static class Order {
        final int number;
        final int n;
        final int[] down = new int[MOST_THINGS];
        final int[] up = new int[MOST_THINGS];
        int pairCount = 0;

        Order(int number, int n) {
            this.number = number;
            this.n = Math.min(Math.max(n, 0), MOST_THINGS);
        }

        int kind() {
            return 0;
        }

        int lookAct(int x, Line trace) {
            trace.add(10);
            return x + pairCount;
        }

        int partAct(int x, Line trace) {
            trace.add(11);
            return lookAct(x, trace) * n;
        }

        int joinAct(int x, Line trace) {
            trace.add(12);
            return x - number;
        }

        int tellAct(int x, Line trace) {
            trace.add(13);
            return partAct(x, trace) ^ joinAct(x, trace);
        }

        final boolean hasThing(int t) {
            return t >= 0 && t < n;
        }

        final boolean hasThings(int a, int b) {
            return hasThing(a) && hasThing(b);
        }

        final int all() {
            return (1 << n) - 1;
        }

        final boolean isBelow(int a, int b) {
            return hasThings(a, b) && (down[b] >> a & 1) != 0;
        }

        final boolean isNext(int a, int b) {
            return isBelow(a, b) && (up[a] & down[b]) == 0;
        }

        final boolean areUnordered(int a, int b) {
            return a != b && !isBelow(a, b) && !isBelow(b, a);
        }

        final void mark(int a, int b) {
            if (hasThings(a, b) && !isBelow(a, b)) {
                down[b] |= 1 << a;
                up[a] |= 1 << b;
                pairCount++;
            }
        }

        final void copyPairs(Order from, int shift) {
            for (int a = 0; a < from.n; a++) {
                for (int b = 0; b < from.n; b++) {
                    if (from.isBelow(a, b)) {
                        mark(a + shift, b + shift);
                    }
                }
            }
        }

        /** Says whether this was news. */
        final boolean tellPair(int a, int b) {
            if (!hasThings(a, b) || isBelow(a, b)) {
                return false;
            }
            int lower = down[a] | 1 << a;
            int upper = up[b] | 1 << b;
            for (int x = 0; x < n; x++) {
                for (int y = 0; y < n; y++) {
                    if ((lower >> x & 1) != 0 && (upper >> y & 1) != 0) {
                        mark(x, y);
                    }
                }
            }
            return true;
        }

        final int nextCount() {
            int found = 0;
            for (int a = 0; a < n; a++) {
                for (int b = 0; b < n; b++) {
                    if (isNext(a, b)) {
                        found++;
                    }
                }
            }
            return found;
        }

        /** The THINGS of a set that none of the set is BELOW. */
        private int leastOf(int set) {
            int least = 0;
            for (int t = 0; t < n; t++) {
                if ((set >> t & 1) != 0 && (down[t] & set) == 0) {
                    least |= 1 << t;
                }
            }
            return least;
        }

        final int layer(int thing) {
            int left = all();
            for (int step = 0; step < n; step++) {
                int least = leastOf(left);
                if ((least >> thing & 1) != 0) {
                    return step;
                }
                left &= ~least;
            }
            return NONE;
        }

        final int height() {
            int left = all();
            for (int step = 0; step < n; step++) {
                if (left == 0) {
                    return step;
                }
                left &= ~leastOf(left);
            }
            return n;
        }

        private boolean isAntichain(int set) {
            for (int t = 0; t < n; t++) {
                if ((set >> t & 1) != 0 && (down[t] & set) != 0) {
                    return false;
                }
            }
            return true;
        }

        final int widestBits() {
            int best = 0;
            int last = all();
            for (int set = 1; set <= last; set++) {
                if (isAheadOf(set, best) && isAntichain(set)) {
                    best = set;
                }
            }
            return best;
        }

        /** Of two sets of one size the one with the lowest THING that only one has is ahead. */
        private static boolean isAheadOf(int set, int other) {
            int more = Integer.bitCount(set) - Integer.bitCount(other);
            int differ = set ^ other;
            return more > 0 || more == 0 && (set & differ & -differ) != 0;
        }

        /** The shortest row of THINGS from one to another, each NEXT to the one behind it. */
        final void findPath(int from, int to, Line path) {
            path.empty();
            int steps = stepsTo(from, to);
            int at = from;
            path.add(at);
            for (int left = steps - 1; left >= 0; left--) {
                at = firstStep(at, to, left);
                path.add(at);
            }
        }

        private int firstStep(int from, int to, int left) {
            for (int t = 0; t < n; t++) {
                if (isNext(from, t) && stepsTo(t, to) == left) {
                    return t;
                }
            }
            return to;
        }

        private int stepsTo(int from, int to) {
            int reached = 1 << from;
            for (int steps = 0; steps < n; steps++) {
                if ((reached >> to & 1) != 0) {
                    return steps;
                }
                reached = allNextOver(reached);
            }
            return NONE;
        }

        private int allNextOver(int set) {
            int over = 0;
            for (int a = 0; a < n; a++) {
                for (int b = 0; b < n; b++) {
                    if ((set >> a & 1) != 0 && isNext(a, b)) {
                        over |= 1 << b;
                    }
                }
            }
            return over;
        }

        final int leastAbove(int a, int b) {
            int over = (up[a] | 1 << a) & (up[b] | 1 << b);
            for (int t = 0; t < n; t++) {
                if ((over >> t & 1) != 0 && (over & ~(up[t] | 1 << t)) == 0) {
                    return t;
                }
            }
            return NONE;
        }

        final int greatestUnder(int a, int b) {
            int under = (down[a] | 1 << a) & (down[b] | 1 << b);
            for (int t = 0; t < n; t++) {
                if ((under >> t & 1) != 0 && (under & ~(down[t] | 1 << t)) == 0) {
                    return t;
                }
            }
            return NONE;
        }

        final int firstBent() {
            for (int a = 0; a < n; a++) {
                for (int b = 0; b < n; b++) {
                    int found = areUnordered(a, b) ? firstBentEnd(a, b) : NONE;
                    if (found != NONE) {
                        return 1000 * a + 100 * b + found;
                    }
                }
            }
            return NONE;
        }

        private int firstBentEnd(int a, int b) {
            int both = up[a] & up[b];
            int onlySecond = up[b] & ~up[a];
            for (int c = 0; c < n; c++) {
                for (int d = 0; d < n; d++) {
                    boolean placed = (both >> c & 1) != 0 && (onlySecond >> d & 1) != 0;
                    if (placed && areUnordered(c, d) && areUnordered(a, d)) {
                        return 10 * c + d;
                    }
                }
            }
            return NONE;
        }
    }

    /** KIND 1. */
    static class Stack extends Order {
        Stack(int number, int n) {
            super(number, n);
        }

        int kind() {
            return 1;
        }

        int lookAct(int x, Line trace) {
            trace.add(20);
            return super.lookAct(x, trace) + 1;
        }

        int tellAct(int x, Line trace) {
            trace.add(21);
            return super.tellAct(x * 2, trace);
        }
    }

    /** KIND 2. */
    static class Beside extends Stack {
        Beside(int number, int n) {
            super(number, n);
        }

        int kind() {
            return 2;
        }

        int joinAct(int x, Line trace) {
            trace.add(30);
            return super.joinAct(x, trace) * 3;
        }
    }

    /** KIND 3. */
    static final class Times extends Beside {
        Times(int number, int n) {
            super(number, n);
        }

        int kind() {
            return 3;
        }

        int partAct(int x, Line trace) {
            trace.add(40);
            return super.partAct(x, trace) - pairCount;
        }

        int joinAct(int x, Line trace) {
            trace.add(41);
            return super.joinAct(x, trace) + super.lookAct(x, trace);
        }
    }

    /** KIND 4. */
    static final class Held extends Order {
        Held(int number, int n) {
            super(number, n);
        }

        int kind() {
            return 4;
        }

        int lookAct(int x, Line trace) {
            trace.add(50);
            return super.lookAct(x - n, trace);
        }

        int tellAct(int x, Line trace) {
            trace.add(51);
            return joinAct(x, trace) + super.tellAct(x, trace);
        }
    }

    /** KIND 5. */
    static final class Row extends Stack {
        Row(int number, int n) {
            super(number, n);
        }

        int kind() {
            return 5;
        }

        int partAct(int x, Line trace) {
            trace.add(60);
            return super.partAct(x + 2, trace);
        }

        int lookAct(int x, Line trace) {
            trace.add(61);
            return super.lookAct(x, trace) * 2;
        }
    }

    /** LOW SETS and ROWS OUT, counted over the LOW SETS: a ROW OUT goes from the empty one to all. */
    static final class RowsOut {
        /** In how many ways the THINGS of a set can stand ahead of the others; 0: no LOW SET. */
        private final int[] waysTo = new int[SETS_OF_THINGS];
        /** In how many ways the others can stand behind a LOW SET. */
        private final int[] waysFrom = new int[SETS_OF_THINGS];
        private final int[] jumpsTo = new int[SETS_OF_THINGS];
        private final int[] lastOnes = new int[SETS_OF_THINGS];
        private Order counted = null;
        private int countedPairs = 0;

        static boolean canFollow(Order o, int set, int t) {
            return (set >> t & 1) == 0 && (o.down[t] & ~set) == 0;
        }

        /** An ORDER's pairs only ever grow, so their number tells whether the counts still hold. */
        private void countWays(Order o) {
            if (counted == o && countedPairs == o.pairCount) {
                return;
            }
            counted = o;
            countedPairs = o.pairCount;
            int all = o.all();
            for (int set = 0; set <= all; set++) {
                waysTo[set] = 0;
                waysFrom[set] = 0;
            }
            waysTo[0] = 1;
            for (int set = 0; set < all; set++) {
                if (waysTo[set] != 0) {
                    spreadWays(o, set);
                }
            }
            waysFrom[all] = 1;
            for (int set = all - 1; set >= 0; set--) {
                if (waysTo[set] != 0) {
                    gatherWays(o, set);
                }
            }
        }

        private void spreadWays(Order o, int set) {
            for (int t = 0; t < o.n; t++) {
                if (canFollow(o, set, t)) {
                    waysTo[set | 1 << t] += waysTo[set];
                }
            }
        }

        private void gatherWays(Order o, int set) {
            int sum = 0;
            for (int t = 0; t < o.n; t++) {
                if (canFollow(o, set, t)) {
                    sum += waysFrom[set | 1 << t];
                }
            }
            waysFrom[set] = sum;
        }

        int total(Order o) {
            countWays(o);
            return waysFrom[0];
        }

        boolean hasRank(Order o, int rank) {
            return rank >= 0 && rank < total(o);
        }

        int lowSetCount(Order o) {
            countWays(o);
            int all = o.all();
            int found = 0;
            for (int set = 0; set <= all; set++) {
                if (waysTo[set] != 0) {
                    found++;
                }
            }
            return found;
        }

        int lowSet(Order o, int i) {
            countWays(o);
            int all = o.all();
            int found = 0;
            for (int set = 0; set <= all; set++) {
                if (waysTo[set] != 0) {
                    if (found == i) {
                        return set;
                    }
                    found++;
                }
            }
            return NONE;
        }

        /** As many LOW SETS as there is room for. */
        void listLowSets(Order o, Line into) {
            countWays(o);
            int all = o.all();
            into.empty();
            for (int set = 0; set <= all; set++) {
                if (waysTo[set] != 0) {
                    into.add(set);
                }
            }
        }

        /** The ROW OUT with a rank that there is. */
        void tellRow(Order o, int rank, Line into) {
            countWays(o);
            into.empty();
            int set = 0;
            int left = rank;
            for (int place = 0; place < o.n; place++) {
                for (int t = 0; t < o.n; t++) {
                    if (canFollow(o, set, t)) {
                        int ways = waysFrom[set | 1 << t];
                        if (left < ways) {
                            set |= 1 << t;
                            into.add(t);
                            break;
                        }
                        left -= ways;
                    }
                }
            }
        }

        int rankOf(Order o, Line row) {
            countWays(o);
            int set = 0;
            int rank = 0;
            for (int place = 0; place < row.size; place++) {
                int here = row.at(place);
                for (int t = 0; t < here; t++) {
                    if (canFollow(o, set, t)) {
                        rank += waysFrom[set | 1 << t];
                    }
                }
                set |= 1 << here;
            }
            return rank;
        }

        int firstLack(Order o, Line row) {
            int set = 0;
            for (int place = 0; place < row.size; place++) {
                int here = row.at(place);
                if (!o.hasThing(here) || !canFollow(o, set, here)) {
                    return place;
                }
                set |= 1 << here;
            }
            return NONE;
        }

        boolean isRowOut(Order o, Line row) {
            return row.size == o.n && firstLack(o, row) == NONE;
        }

        int jumpsOf(Order o, Line row) {
            int found = 0;
            for (int place = 1; place < row.size; place++) {
                if (!o.isBelow(row.at(place - 1), row.at(place))) {
                    found++;
                }
            }
            return found;
        }

        int aheadCount(Order o, int a, int b) {
            countWays(o);
            int all = o.all();
            int sum = 0;
            for (int set = 0; set < all; set++) {
                if ((set >> a & 1) != 0) {
                    sum += waysThrough(o, set, b);
                }
            }
            return sum;
        }

        long placeSum(Order o, int thing) {
            countWays(o);
            int all = o.all();
            long sum = 0;
            for (int set = 0; set < all; set++) {
                sum += (long) Integer.bitCount(set) * waysThrough(o, set, thing);
            }
            return sum;
        }

        /** In how many ROWS OUT a THING comes just behind all of a set. */
        private int waysThrough(Order o, int set, int t) {
            if (waysTo[set] == 0 || !canFollow(o, set, t)) {
                return 0;
            }
            return waysTo[set] * waysFrom[set | 1 << t];
        }

        int firstFair(Order o) {
            int total = total(o);
            for (int a = 0; a < o.n; a++) {
                for (int b = a + 1; b < o.n; b++) {
                    if (o.areUnordered(a, b)) {
                        int share = 11 * aheadCount(o, a, b);
                        if (share >= 3 * total && share <= 8 * total) {
                            return 10 * a + b;
                        }
                    }
                }
            }
            return NONE;
        }

        int leastJumps(Order o) {
            countWays(o);
            int all = o.all();
            for (int set = 0; set <= all; set++) {
                jumpsTo[set] = MOST_THINGS;
                lastOnes[set] = 0;
            }
            jumpsTo[0] = 0;
            for (int set = 0; set < all; set++) {
                if (waysTo[set] != 0) {
                    spreadJumps(o, set);
                }
            }
            return jumpsTo[all];
        }

        /** Only last ones with the least JUMPS are kept: any other one is a JUMP behind already. */
        private void spreadJumps(Order o, int set) {
            for (int t = 0; t < o.n; t++) {
                if (canFollow(o, set, t)) {
                    int grown = set | 1 << t;
                    boolean jumps = set != 0 && (lastOnes[set] & o.down[t]) == 0;
                    int found = jumpsTo[set] + (jumps ? 1 : 0);
                    if (found < jumpsTo[grown]) {
                        jumpsTo[grown] = found;
                        lastOnes[grown] = 0;
                    }
                    if (found == jumpsTo[grown]) {
                        lastOnes[grown] |= 1 << t;
                    }
                }
            }
        }
    }

    /** ABOVE and MEET for all THINGS at once, and INVERSE. */
    static final class Bounds {
        private final int[] above = new int[MOST_THINGS * MOST_THINGS];
        private final int[] meet = new int[MOST_THINGS * MOST_THINGS];
        private final int[] inverses = new int[MOST_THINGS];

        /** Leaves all bounds told, for firstUneven. */
        boolean isLattice(Order o) {
            for (int a = 0; a < o.n; a++) {
                for (int b = 0; b < o.n; b++) {
                    int over = o.leastAbove(a, b);
                    int under = o.greatestUnder(a, b);
                    if (over == NONE || under == NONE) {
                        return false;
                    }
                    above[a * MOST_THINGS + b] = over;
                    meet[a * MOST_THINGS + b] = under;
                }
            }
            return o.n > 0;
        }

        /** Of a LATTICE, just behind isLattice. */
        int firstUneven(Order o) {
            for (int a = 0; a < o.n; a++) {
                for (int b = 0; b < o.n; b++) {
                    for (int c = 0; c < o.n; c++) {
                        if (!isEvenAt(a, b, c)) {
                            return 100 * a + 10 * b + c;
                        }
                    }
                }
            }
            return NONE;
        }

        private boolean isEvenAt(int a, int b, int c) {
            int left = meet[a * MOST_THINGS + above[b * MOST_THINGS + c]];
            int ab = meet[a * MOST_THINGS + b];
            int ac = meet[a * MOST_THINGS + c];
            return left == above[ab * MOST_THINGS + ac];
        }

        int inverse(Order o, int a, int b) {
            // A THING has more BELOW it than any that is BELOW it: so the sums come in their turn.
            for (int many = 0; many < o.n; many++) {
                for (int t = 0; t < o.n; t++) {
                    if (Integer.bitCount(o.down[t]) == many) {
                        inverses[t] = inverseFromLower(o, a, t);
                    }
                }
            }
            return inverses[b];
        }

        private int inverseFromLower(Order o, int a, int b) {
            if (a == b) {
                return 1;
            }
            if (!o.isBelow(a, b)) {
                return 0;
            }
            int sum = 0;
            for (int c = 0; c < o.n; c++) {
                if (o.isBelow(c, b) && (c == a || o.isBelow(a, c))) {
                    sum += inverses[c];
                }
            }
            return -sum;
        }
    }

    /** What is tried THING by THING, with a way back: THE CHAINS, TWO, and maps of one ORDER to another. */
    static final class Search {
        final Line firstRow = new Line(MOST_THINGS);
        private final int[] chains = new int[MOST_THINGS];
        private final int[] chosen = new int[MOST_THINGS];
        private final int[] marks = new int[MOST_THINGS];
        private final int[] otherMarks = new int[MOST_THINGS];
        private final int[] newMarks = new int[MOST_THINGS];

        /** The number of a THING's CHAIN in THE CHAINS. */
        int chainOf(Order o, int thing) {
            int width = Integer.bitCount(o.widestBits());
            Arrays.fill(chains, 0);
            return putIntoChains(o, width, 0, 0) ? chosen[thing] : NONE;
        }

        private boolean putIntoChains(Order o, int width, int used, int t) {
            if (t >= o.n) {
                return true;
            }
            int ordered = o.down[t] | o.up[t];
            // A CHAIN's number is due to its least THING: only the next number can be new.
            for (int c = 0; c <= used && c < width; c++) {
                if ((chains[c] & ~ordered) == 0) {
                    chains[c] |= 1 << t;
                    chosen[t] = c;
                    if (putIntoChains(o, width, Math.max(used, c + 1), t + 1)) {
                        return true;
                    }
                    chains[c] &= ~(1 << t);
                }
            }
            return false;
        }

        /** Finds the first ROW of TWO, if there are TWO. */
        boolean findTwo(Order o) {
            firstRow.empty();
            return growFirstRow(o, 0, 0);
        }

        private boolean growFirstRow(Order o, int set, int depth) {
            if (depth >= o.n) {
                return true;
            }
            for (int t = 0; t < o.n; t++) {
                if (RowsOut.canFollow(o, set, t) && !partsOrdered(o, set, t)) {
                    firstRow.add(t);
                    if (growFirstRow(o, set | 1 << t, depth + 1)) {
                        return true;
                    }
                    firstRow.takeLast();
                }
            }
            return false;
        }

        /**
         * The second ROW turns all that are without order, so there is one unless a THING stands
         * between two that are in order, and is in order with neither.
         */
        private static boolean partsOrdered(Order o, int set, int t) {
            int others = set & ~o.down[t];
            int missed = o.all() & ~set & ~o.up[t];
            for (int a = 0; a < o.n; a++) {
                if ((others >> a & 1) != 0 && (o.up[a] & missed) != 0) {
                    return true;
                }
            }
            return false;
        }

        void turnFirstRow(Order o, Line into) {
            for (int t = 0; t < o.n; t++) {
                chosen[placeInSecond(o, t)] = t;
            }
            into.empty();
            for (int i = 0; i < o.n; i++) {
                into.add(chosen[i]);
            }
        }

        private int placeInSecond(Order o, int t) {
            int place = Integer.bitCount(o.down[t]);
            for (int i = firstRow.placeOf(t) + 1; i < firstRow.size; i++) {
                if (o.areUnordered(t, firstRow.at(i))) {
                    place++;
                }
            }
            return Math.min(place, MOST_THINGS - 1);
        }

        /** What a THING of one ORDER is in another one. */
        int imageOf(Order o, Order other, int thing) {
            if (o.n != other.n) {
                return NONE;
            }
            giveMarks(o, marks);
            giveMarks(other, otherMarks);
            return haveLikeMarks(o.n) && growMap(o, other, 0, 0) ? chosen[thing] : NONE;
        }

        /**
         * THINGS that a map takes to one another bear one mark. Without marks, THINGS that are like
         * many others would be tried in all their turns for nothing.
         */
        private void giveMarks(Order o, int[] into) {
            for (int t = 0; t < o.n; t++) {
                into[t] = 1;
            }
            for (int turn = 0; turn < MARK_TURNS; turn++) {
                for (int t = 0; t < o.n; t++) {
                    newMarks[t] = into[t] * 31 + sumOfMarks(o.down[t], into) * 3 + sumOfMarks(o.up[t], into) * 5;
                }
                for (int t = 0; t < o.n; t++) {
                    into[t] = newMarks[t];
                }
            }
        }

        private static int sumOfMarks(int set, int[] from) {
            int sum = 0;
            for (int t = 0; t < MOST_THINGS; t++) {
                if ((set >> t & 1) != 0) {
                    sum += from[t] * from[t] + 7;
                }
            }
            return sum;
        }

        private boolean haveLikeMarks(int n) {
            for (int t = 0; t < n; t++) {
                int here = 0;
                int there = 0;
                for (int s = 0; s < n; s++) {
                    here += marks[s] == marks[t] ? 1 : 0;
                    there += otherMarks[s] == marks[t] ? 1 : 0;
                }
                if (here != there) {
                    return false;
                }
            }
            return true;
        }

        private boolean growMap(Order o, Order other, int taken, int t) {
            if (t >= o.n) {
                return true;
            }
            for (int image = 0; image < o.n; image++) {
                if ((taken >> image & 1) == 0 && canBe(o, other, t, image)) {
                    chosen[t] = image;
                    if (growMap(o, other, taken | 1 << image, t + 1)) {
                        return true;
                    }
                }
            }
            return false;
        }

        private boolean canBe(Order o, Order other, int t, int image) {
            if (marks[t] != otherMarks[image]) {
                return false;
            }
            for (int s = 0; s < t; s++) {
                if (o.isBelow(s, t) != other.isBelow(chosen[s], image)
                        || o.isBelow(t, s) != other.isBelow(image, chosen[s])) {
                    return false;
                }
            }
            return true;
        }
    }
}
