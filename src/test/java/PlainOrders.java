import java.util.ArrayList;
import java.util.Arrays;
import java.util.List;

/**
 * The document once more, as near to its words as can be and without any thought for speed: all
 * ROWS OUT, sets, ways and maps are written out and looked through. For tests, on ORDERS that are
 * small or have few ROWS OUT.
 */
final class PlainOrders {
    /** An ORDER: its KIND and what is BELOW what. */
    private static final class Plain {
        final int kind;
        final boolean[][] below;
        List<int[]> rows = null;

        Plain(int kind, int n) {
            this.kind = kind;
            this.below = new boolean[n][n];
        }

        int n() {
            return below.length;
        }

        boolean next(int a, int b) {
            if (!below[a][b]) {
                return false;
            }
            for (int c = 0; c < n(); c++) {
                if (below[a][c] && below[c][b]) {
                    return false;
                }
            }
            return true;
        }

        boolean ordered(int a, int b) {
            return below[a][b] || below[b][a];
        }

        List<int[]> rowsOut() {
            if (rows == null) {
                rows = new ArrayList<>();
                growRows(new ArrayList<>());
            }
            return rows;
        }

        private void growRows(List<Integer> row) {
            if (row.size() == n()) {
                rows.add(row.stream().mapToInt(i -> i).toArray());
                return;
            }
            for (int t = 0; t < n(); t++) {
                if (!row.contains(t) && isBehindAll(row, t)) {
                    row.add(t);
                    growRows(row);
                    row.remove(row.size() - 1);
                }
            }
        }

        private boolean isBehindAll(List<Integer> row, int t) {
            for (int a = 0; a < n(); a++) {
                if (below[a][t] && !row.contains(a)) {
                    return false;
                }
            }
            return true;
        }

        List<Integer> lowSets() {
            List<Integer> sets = new ArrayList<>();
            for (int set = 0; set < 1 << n(); set++) {
                boolean low = true;
                for (int b = 0; b < n(); b++) {
                    for (int a = 0; a < n(); a++) {
                        if (in(set, b) && below[a][b] && !in(set, a)) {
                            low = false;
                        }
                    }
                }
                if (low) {
                    sets.add(set);
                }
            }
            return sets;
        }
    }

    private final List<Plain> orders = new ArrayList<>();
    private final List<Integer> hand = new ArrayList<>();
    private int handFor = -1;
    private List<Integer> round = new ArrayList<>();
    private List<Integer> trace = new ArrayList<>();
    private final int[][] sheets = new int[4][];
    private final int[] sorts = new int[4];
    private int status = 0;

    private static boolean in(int set, int t) {
        return (set & 1 << t) != 0;
    }

    private static int place(int[] row, int t) {
        for (int i = 0; i < row.length; i++) {
            if (row[i] == t) {
                return i;
            }
        }
        throw new IllegalStateException();
    }

    private int no(int why) {
        status = why;
        return -1;
    }

    private int yes(int answer) {
        status = 0;
        return answer;
    }

    private boolean has(int order) {
        return order >= 0 && order < orders.size();
    }

    private boolean has(int order, int thing) {
        return has(order) && thing >= 0 && thing < orders.get(order).n();
    }

    private int make(Plain made) {
        if (orders.size() == 8 || made.n() > 10) {
            return no(2);
        }
        orders.add(made);
        return yes(orders.size() - 1);
    }

    int order(int n) {
        return n < 0 || n > 10 ? no(1) : make(new Plain(0, n));
    }

    int pair(int order, int a, int b) {
        if (!has(order, a) || !has(order, b) || a == b) {
            return no(1);
        }
        Plain o = orders.get(order);
        if (o.kind != 0) {
            return no(3);
        }
        if (o.below[b][a]) {
            round = shortest(o, b, a);
            return no(3);
        }
        round = new ArrayList<>();
        return yes(tell(o, a, b));
    }

    private static int tell(Plain o, int a, int b) {
        if (o.below[a][b]) {
            return 0;
        }
        o.rows = null;
        o.below[a][b] = true;
        for (int c = 0; c < o.n(); c++) {
            for (int x = 0; x < o.n(); x++) {
                for (int y = 0; y < o.n(); y++) {
                    o.below[x][y] |= o.below[x][c] && o.below[c][y];
                }
            }
        }
        return 1;
    }

    private static List<Integer> shortest(Plain o, int from, int to) {
        if (from == to) {
            return new ArrayList<>(List.of(to));
        }
        List<Integer> best = null;
        for (int t = 0; t < o.n(); t++) {
            if (o.next(from, t) && (t == to || o.below[t][to])) {
                List<Integer> rest = shortest(o, t, to);
                if (best == null || rest.size() + 1 < best.size()) {
                    best = new ArrayList<>();
                    best.add(from);
                    best.addAll(rest);
                }
            }
        }
        return best;
    }

    int round(int i) {
        return i < 0 || i >= round.size() ? -1 : round.get(i);
    }

    private int together(int a, int b, int kind) {
        if (!has(a) || !has(b)) {
            return no(1);
        }
        Plain first = orders.get(a);
        Plain second = orders.get(b);
        int n = first.n() + second.n();
        Plain made = new Plain(kind, n);
        for (int x = 0; x < n; x++) {
            for (int y = 0; y < n; y++) {
                boolean low = x < first.n();
                boolean high = y >= first.n();
                if (low && high) {
                    made.below[x][y] = kind == 1;
                } else if (low) {
                    made.below[x][y] = first.below[x][y];
                } else if (high) {
                    made.below[x][y] = second.below[x - first.n()][y - first.n()];
                }
            }
        }
        return make(made);
    }

    int stack(int a, int b) {
        return together(a, b, 1);
    }

    int beside(int a, int b) {
        return together(a, b, 2);
    }

    int times(int a, int b) {
        if (!has(a) || !has(b)) {
            return no(1);
        }
        Plain first = orders.get(a);
        Plain second = orders.get(b);
        int m = second.n();
        Plain made = new Plain(3, first.n() * m);
        for (int i = 0; i < made.n(); i++) {
            for (int j = 0; j < made.n(); j++) {
                boolean x = i / m == j / m || first.below[i / m][j / m];
                boolean y = i % m == j % m || second.below[i % m][j % m];
                made.below[i][j] = x && y && i != j;
            }
        }
        return make(made);
    }

    int held(int a) {
        if (!has(a)) {
            return no(1);
        }
        List<Integer> sets = orders.get(a).lowSets();
        Plain made = new Plain(4, sets.size());
        for (int i = 0; i < sets.size(); i++) {
            for (int j = 0; j < sets.size(); j++) {
                made.below[i][j] = i != j && (sets.get(i) | sets.get(j)) == sets.get(j);
            }
        }
        return make(made);
    }

    int row(int n) {
        if (n < 0 || n > 10) {
            return no(1);
        }
        Plain made = new Plain(5, n);
        for (int a = 0; a < n; a++) {
            for (int b = 0; b < n; b++) {
                made.below[a][b] = a < b;
            }
        }
        return make(made);
    }

    int dual(int a) {
        if (!has(a)) {
            return no(1);
        }
        Plain o = orders.get(a);
        Plain made = new Plain(0, o.n());
        for (int x = 0; x < o.n(); x++) {
            for (int y = 0; y < o.n(); y++) {
                made.below[x][y] = o.below[y][x];
            }
        }
        return make(made);
    }

    int part(int a, int bits) {
        if (!has(a) || bits < 0 || bits >= 1 << orders.get(a).n()) {
            return no(1);
        }
        Plain o = orders.get(a);
        List<Integer> things = new ArrayList<>();
        for (int t = 0; t < o.n(); t++) {
            if (in(bits, t)) {
                things.add(t);
            }
        }
        Plain made = new Plain(0, things.size());
        for (int x = 0; x < things.size(); x++) {
            for (int y = 0; y < things.size(); y++) {
                made.below[x][y] = o.below[things.get(x)][things.get(y)];
            }
        }
        return make(made);
    }

    int drop() {
        if (orders.isEmpty()) {
            return no(3);
        }
        int number = orders.size() - 1;
        orders.remove(number);
        round = new ArrayList<>();
        if (handFor == number) {
            hand.clear();
            handFor = -1;
        }
        return yes(number);
    }

    private static int pairsOf(Plain o) {
        int found = 0;
        for (boolean[] row : o.below) {
            for (boolean is : row) {
                found += is ? 1 : 0;
            }
        }
        return found;
    }

    int told(int order, int what) {
        if (!has(order)) {
            return -1;
        }
        Plain o = orders.get(order);
        switch (what) {
            case 0: return o.kind;
            case 1: return o.n();
            case 2: return pairsOf(o);
            case 3: return nexts(o);
            case 4: return o.lowSets().size();
            case 5: return Integer.bitCount(widest(order));
            case 6: return height(o, (1 << o.n()) - 1);
            case 7: return o.rowsOut().size();
            case 8: return o.rowsOut().stream().mapToInt(row -> jumps(o, row)).min().getAsInt();
            case 9: return lattice(o) ? 1 : 0;
            case 10: return lattice(o) && uneven(order) == -1 ? 1 : 0;
            case 11: return bent(order) == -1 ? 1 : 0;
            case 12: return findTwo(o) != null ? 1 : 0;
            default: return -1;
        }
    }

    private static int nexts(Plain o) {
        int found = 0;
        for (int a = 0; a < o.n(); a++) {
            for (int b = 0; b < o.n(); b++) {
                found += o.next(a, b) ? 1 : 0;
            }
        }
        return found;
    }

    /** The greatest number of THINGS of a CHAIN of some THINGS. */
    private static int height(Plain o, int of) {
        int best = 0;
        for (int set = 0; set < 1 << o.n(); set++) {
            boolean chain = (set & ~of) == 0;
            for (int a = 0; a < o.n(); a++) {
                for (int b = 0; b < a; b++) {
                    chain &= !in(set, a) || !in(set, b) || o.ordered(a, b);
                }
            }
            if (chain) {
                best = Math.max(best, Integer.bitCount(set));
            }
        }
        return best;
    }

    private static int jumps(Plain o, int[] row) {
        int found = 0;
        for (int i = 1; i < row.length; i++) {
            found += o.below[row[i - 1]][row[i]] ? 0 : 1;
        }
        return found;
    }

    private static boolean lattice(Plain o) {
        for (int a = 0; a < o.n(); a++) {
            for (int b = 0; b < o.n(); b++) {
                if (bound(o, a, b, 0) == -1 || bound(o, a, b, 1) == -1) {
                    return false;
                }
            }
        }
        return o.n() > 0;
    }

    int count(int what) {
        switch (what) {
            case 0: return orders.size();
            case 1: return hand.size();
            case 2: return handFor;
            case 3: return trace.size();
            default: return -1;
        }
    }

    int below(int order, int a, int b) {
        if (!has(order, a) || !has(order, b)) {
            return -1;
        }
        Plain o = orders.get(order);
        return o.next(a, b) ? 2 : o.below[a][b] ? 1 : 0;
    }

    private static List<Integer> thingsOf(int set) {
        List<Integer> things = new ArrayList<>();
        for (int t = 0; t < 10; t++) {
            if (in(set, t)) {
                things.add(t);
            }
        }
        return things;
    }

    private static boolean ahead(List<Integer> one, List<Integer> other) {
        for (int i = 0; i < Math.min(one.size(), other.size()); i++) {
            if (!one.get(i).equals(other.get(i))) {
                return one.get(i) < other.get(i);
            }
        }
        return false;
    }

    int widest(int order) {
        if (!has(order)) {
            return -1;
        }
        Plain o = orders.get(order);
        int best = 0;
        for (int set = 1; set < 1 << o.n(); set++) {
            List<Integer> things = thingsOf(set);
            boolean anti = things.stream().noneMatch(a -> things.stream().anyMatch(b -> o.below[a][b]));
            int more = things.size() - Integer.bitCount(best);
            if (anti && (more > 0 || more == 0 && ahead(things, thingsOf(best)))) {
                best = set;
            }
        }
        return best;
    }

    int of(int order, int thing, int what) {
        if (!has(order, thing) || what < 0 || what > 1) {
            return -1;
        }
        Plain o = orders.get(order);
        if (what == 1) {
            int lower = 0;
            for (int t = 0; t < o.n(); t++) {
                lower |= o.below[t][thing] ? 1 << t : 0;
            }
            return height(o, lower);
        }
        return chains(o, Integer.bitCount(widest(order)), new int[o.n()], 0)[thing];
    }

    /** All ways to number the THINGS, the first one that is good. */
    private static int[] chains(Plain o, int width, int[] way, int t) {
        if (t == o.n()) {
            return goodChains(o, width, way) ? way : null;
        }
        for (int c = 0; c < width; c++) {
            way[t] = c;
            int[] found = partGood(o, way, t) ? chains(o, width, way, t + 1) : null;
            if (found != null) {
                return found;
            }
        }
        return null;
    }

    private static boolean partGood(Plain o, int[] way, int t) {
        for (int s = 0; s < t; s++) {
            if (way[s] == way[t] && !o.ordered(s, t)) {
                return false;
            }
        }
        return true;
    }

    private static boolean goodChains(Plain o, int width, int[] way) {
        int[] least = new int[width];
        Arrays.fill(least, 99);
        for (int t = o.n() - 1; t >= 0; t--) {
            least[way[t]] = t;
        }
        for (int c = 0; c < width; c++) {
            if (least[c] == 99 || c > 0 && least[c - 1] > least[c]) {
                return false;
            }
        }
        return true;
    }

    int low(int order, int i) {
        if (!has(order)) {
            return -1;
        }
        List<Integer> sets = orders.get(order).lowSets();
        return i < 0 || i >= sets.size() ? -1 : sets.get(i);
    }

    int rowOut(int order, int rank, int i) {
        if (!has(order, i) || rank < 0 || rank >= orders.get(order).rowsOut().size()) {
            return -1;
        }
        return orders.get(order).rowsOut().get(rank)[i];
    }

    int before(int order, int a, int b) {
        if (!has(order, a) || !has(order, b) || a == b) {
            return -1;
        }
        int found = 0;
        for (int[] row : orders.get(order).rowsOut()) {
            found += place(row, a) < place(row, b) ? 1 : 0;
        }
        return found;
    }

    long places(int order, int thing) {
        if (!has(order, thing)) {
            return -1;
        }
        long sum = 0;
        for (int[] row : orders.get(order).rowsOut()) {
            sum += place(row, thing);
        }
        return sum;
    }

    int fair(int order) {
        if (!has(order)) {
            return -1;
        }
        Plain o = orders.get(order);
        int all = o.rowsOut().size();
        for (int a = 0; a < o.n(); a++) {
            for (int b = a + 1; b < o.n(); b++) {
                int many = o.ordered(a, b) ? 0 : before(order, a, b);
                if (11 * many >= 3 * all && 11 * many <= 8 * all) {
                    return 10 * a + b;
                }
            }
        }
        return -1;
    }

    private static int[][] findTwo(Plain o) {
        for (int[] one : o.rowsOut()) {
            for (int[] other : o.rowsOut()) {
                if (tellAll(o, one, other)) {
                    return new int[][] {one, other};
                }
            }
        }
        return null;
    }

    private static boolean tellAll(Plain o, int[] one, int[] other) {
        for (int a = 0; a < o.n(); a++) {
            for (int b = 0; b < o.n(); b++) {
                boolean both = place(one, a) < place(one, b) && place(other, a) < place(other, b);
                if (both != o.below[a][b]) {
                    return false;
                }
            }
        }
        return true;
    }

    int two(int order, int which, int i) {
        if (!has(order, i) || which < 0 || which > 1) {
            return -1;
        }
        int[][] found = findTwo(orders.get(order));
        return found == null ? -1 : found[which][i];
    }

    int invert(int order, int a, int b) {
        return !has(order, a) || !has(order, b) ? -1000000 : inverse(orders.get(order), a, b);
    }

    private static int inverse(Plain o, int a, int b) {
        if (a == b) {
            return 1;
        }
        if (!o.below[a][b]) {
            return 0;
        }
        int sum = 0;
        for (int c = 0; c < o.n(); c++) {
            if (o.below[c][b] && (a == c || o.below[a][c])) {
                sum += inverse(o, a, c);
            }
        }
        return -sum;
    }

    private static int bound(Plain o, int a, int b, int way) {
        for (int t = 0; t < o.n(); t++) {
            boolean least = bounds(o, a, b, t, way);
            for (int u = 0; u < o.n(); u++) {
                if (u != t && bounds(o, a, b, u, way)) {
                    least &= way == 0 ? o.below[t][u] : o.below[u][t];
                }
            }
            if (least) {
                return t;
            }
        }
        return -1;
    }

    private static boolean bounds(Plain o, int a, int b, int t, int way) {
        if (way == 0) {
            return (a == t || o.below[a][t]) && (b == t || o.below[b][t]);
        }
        return (a == t || o.below[t][a]) && (b == t || o.below[t][b]);
    }

    int bound(int order, int a, int b, int way) {
        if (!has(order, a) || !has(order, b) || way < 0 || way > 1) {
            return -2;
        }
        return bound(orders.get(order), a, b, way);
    }

    int uneven(int order) {
        if (!has(order) || !lattice(orders.get(order))) {
            return -1;
        }
        Plain o = orders.get(order);
        for (int a = 0; a < o.n(); a++) {
            for (int b = 0; b < o.n(); b++) {
                for (int c = 0; c < o.n(); c++) {
                    int left = bound(o, a, bound(o, b, c, 0), 1);
                    int right = bound(o, bound(o, a, b, 1), bound(o, a, c, 1), 0);
                    if (left != right) {
                        return 100 * a + 10 * b + c;
                    }
                }
            }
        }
        return -1;
    }

    int bent(int order) {
        if (!has(order)) {
            return -1;
        }
        Plain o = orders.get(order);
        int n = o.n();
        for (int i = 0; i < n * n * n * n; i++) {
            int[] four = {i / n / n / n, i / n / n % n, i / n % n, i % n};
            if (isBent(o, four)) {
                return 1000 * four[0] + 100 * four[1] + 10 * four[2] + four[3];
            }
        }
        return -1;
    }

    private static boolean isBent(Plain o, int[] four) {
        for (int i = 0; i < 4; i++) {
            for (int j = 0; j < 4; j++) {
                boolean due = i == 0 && j == 2 || i == 1 && j == 2 || i == 1 && j == 3;
                if (i != j && (four[i] == four[j] || o.below[four[i]][four[j]] != due)) {
                    return false;
                }
            }
        }
        return true;
    }

    int same(int order, int other, int a) {
        if (!has(order, a) || !has(other) || orders.get(order).n() != orders.get(other).n()) {
            return -1;
        }
        Plain o = orders.get(order);
        Plain p = orders.get(other);
        List<Integer> map = new ArrayList<>();
        return growMap(o, p, map) ? map.get(a) : -1;
    }

    private static boolean growMap(Plain o, Plain p, List<Integer> map) {
        if (map.size() == o.n()) {
            return true;
        }
        for (int t = 0; t < o.n(); t++) {
            if (!map.contains(t)) {
                map.add(t);
                if (isMap(o, p, map) && growMap(o, p, map)) {
                    return true;
                }
                map.remove(map.size() - 1);
            }
        }
        return false;
    }

    private static boolean isMap(Plain o, Plain p, List<Integer> map) {
        for (int x = 0; x < map.size(); x++) {
            for (int y = 0; y < map.size(); y++) {
                if (o.below[x][y] != p.below[map.get(x)][map.get(y)]) {
                    return false;
                }
            }
        }
        return true;
    }

    int lay(int order, int thing) {
        if (!has(order, thing)) {
            return no(1);
        }
        if (!hand.isEmpty() && handFor != order || hand.contains(thing)) {
            return no(3);
        }
        handFor = order;
        hand.add(thing);
        return yes(hand.size());
    }

    int clear() {
        int had = hand.size();
        hand.clear();
        handFor = -1;
        return yes(had);
    }

    private int handRank() {
        if (hand.isEmpty()) {
            return -1;
        }
        List<int[]> rows = orders.get(handFor).rowsOut();
        int[] mine = hand.stream().mapToInt(i -> i).toArray();
        for (int rank = 0; rank < rows.size(); rank++) {
            if (Arrays.equals(rows.get(rank), mine)) {
                return rank;
            }
        }
        return -1;
    }

    int hand(int what) {
        if (hand.isEmpty() || what < 0 || what > 2) {
            return -1;
        }
        Plain o = orders.get(handFor);
        if (what == 2) {
            for (int i = 0; i < hand.size(); i++) {
                for (int t = 0; t < o.n(); t++) {
                    if (o.below[t][hand.get(i)] && !hand.subList(0, i).contains(t)) {
                        return i;
                    }
                }
            }
            return -1;
        }
        int rank = handRank();
        return rank == -1 || what == 0 ? rank : jumps(o, o.rowsOut().get(rank));
    }

    int unlike(int rank) {
        int mine = handRank();
        if (mine == -1 || rank < 0 || rank >= orders.get(handFor).rowsOut().size()) {
            return -1;
        }
        Plain o = orders.get(handFor);
        int[] one = o.rowsOut().get(mine);
        int[] other = o.rowsOut().get(rank);
        int found = 0;
        for (int a = 0; a < o.n(); a++) {
            for (int b = 0; b < a; b++) {
                found += place(one, a) < place(one, b) != place(other, a) < place(other, b) ? 1 : 0;
            }
        }
        return found;
    }

    int act(int order, int act, int x) {
        if (!has(order) || act < 0 || act > 3) {
            return no(1);
        }
        trace = new ArrayList<>();
        int answer = body(order, act, orders.get(order).kind, x);
        trace = trace.subList(0, Math.min(trace.size(), 60));
        return yes(answer);
    }

    /** The KIND above a KIND. */
    private static final int[] ABOVE = {-1, 0, 1, 2, 0, 1};

    /** What an act answers by the body of a KIND or the next one above it. */
    private int body(int order, int act, int kind, int x) {
        Plain o = orders.get(order);
        int n = o.n();
        int p = pairsOf(o);
        int above = ABOVE[kind];
        switch (10 * kind + act) {
            case 0: trace.add(10); return x + p;
            case 1: trace.add(11); return body(order, 0, o.kind, x) * n;
            case 2: trace.add(12); return x - order;
            case 3: {
                trace.add(13);
                int left = body(order, 1, o.kind, x);
                return left ^ body(order, 2, o.kind, x);
            }
            case 10: trace.add(20); return body(order, 0, above, x) + 1;
            case 13: trace.add(21); return body(order, 3, above, x * 2);
            case 22: trace.add(30); return body(order, 2, above, x) * 3;
            case 31: trace.add(40); return body(order, 1, above, x) - p;
            case 32: {
                trace.add(41);
                int left = body(order, 2, above, x);
                return left + body(order, 0, above, x);
            }
            case 40: trace.add(50); return body(order, 0, above, x - n);
            case 43: {
                trace.add(51);
                int left = body(order, 2, o.kind, x);
                return left + body(order, 3, above, x);
            }
            case 51: trace.add(60); return body(order, 1, above, x + 2);
            case 50: trace.add(61); return body(order, 0, above, x) * 2;
            default: return body(order, act, above, x);
        }
    }

    int trace(int i) {
        return i < 0 || i >= trace.size() ? -1 : trace.get(i);
    }

    int sheet(int sheet, int sort, int n) {
        if (sheet < 0 || sheet > 3 || sort < -1 || sort > 2 || sort != -1 && (n < 0 || n > 20)) {
            return no(1);
        }
        sheets[sheet] = sort == -1 ? null : new int[n];
        sorts[sheet] = sort;
        return yes(1);
    }

    int cell(int sheet, int i, int v) {
        if (sheet < 0 || sheet > 3 || v < 0 || v > 100) {
            return no(1);
        }
        if (sheets[sheet] == null) {
            return no(10);
        }
        if (i < 0 || i >= sheets[sheet].length) {
            return no(12);
        }
        sheets[sheet][i] = v;
        return yes(1);
    }

    int pairs(int order, int sheet, int sort, int n) {
        if (!has(order) || sheet < 0 || sheet > 3 || sort < 0 || sort > 2 || n < 0 || n > 10) {
            return no(1);
        }
        Plain o = orders.get(order);
        if (o.kind != 0) {
            return no(3);
        }
        if (n > 0 && sheets[sheet] == null) {
            return no(10);
        }
        if (n > 0 && sorts[sheet] != sort) {
            return no(11);
        }
        if (n > 0 && sheets[sheet].length < 2 * n) {
            return no(12);
        }
        List<Integer> kept = round;
        int told = 0;
        while (told < n && pair(order, sheets[sheet][2 * told], sheets[sheet][2 * told + 1]) != -1) {
            told++;
        }
        round = kept;
        return yes(told);
    }

    int forge(int what, int n, int k) {
        if (what < 0 || what > 6 || Math.abs((long) n) > 100 || Math.abs((long) k) > 100) {
            return no(1);
        }
        Plain o = has((k + 800) % 8) ? orders.get((k + 800) % 8) : null;
        int[] sheet = sheets[(k + 400) % 4];
        int sort = sorts[(k + 400) % 4];
        switch (what) {
            case 0: return o == null ? no(10) : under(o.kind, (n + 600) % 6) ? yes(o.kind) : no(11);
            case 1: return n < 0 ? no(13) : yes(n);
            case 2:
                if (sheet == null) {
                    return no(10);
                }
                return sort != 1 ? no(11) : n < 0 || n >= sheet.length ? no(12) : yes(sheet[n]);
            case 3: return copy(sheet, sort, n);
            case 4: return o == null ? yes(0) : under(o.kind, 1) ? yes(o.kind) : no(14);
            case 5: return n == 0 ? no(15) : yes(1000 / n);
            default: return n % 2 == 0 ? no(10) : yes(1);
        }
    }

    private int copy(int[] sheet, int sort, int n) {
        if (sheet == null) {
            return no(10);
        }
        if (sort != 0) {
            return no(11);
        }
        int[] into = new int[6];
        try {
            System.arraycopy(sheet, 1, into, n, n);
        } catch (IndexOutOfBoundsException outside) {
            return no(12);
        }
        return yes(Arrays.stream(into).sum());
    }

    private static boolean under(int kind, int asked) {
        for (int at = kind; at != -1; at = ABOVE[at]) {
            if (at == asked) {
                return true;
            }
        }
        return false;
    }

    int status() {
        return status;
    }
}
