import java.util.ArrayList;
import java.util.Collections;
import java.util.List;
import java.util.Random;

/** Promise 28 where many THINGS are like one another: the first map is found only by ways back. */
public final class SameTest {
    private SameTest() {
    }

    public static void main(String[] args) {
        Random random = new Random(3);
        for (int i = 0; i < 3000; i++) {
            compare(2 + i % 6, random, i);
        }
        ringsAreNotOneRing();
        twoRowsOfTwo();
        Due.end();
    }

    /** ORDER 1 is ORDER 0 with other numbers; ORDER 2 has the same numbers in one more pair. */
    private static void compare(int n, Random random, int i) {
        HalfOrders x = new HalfOrders();
        PlainOrders y = new PlainOrders();
        List<Integer> numbers = new ArrayList<>();
        for (int t = 0; t < n; t++) {
            numbers.add(t);
        }
        Collections.shuffle(numbers, random);
        for (int order = 0; order < 3; order++) {
            x.order(n);
            y.order(n);
        }
        int pairs = random.nextInt(n);
        for (int turn = 0; turn <= pairs; turn++) {
            int a = random.nextInt(n);
            int b = random.nextInt(n);
            for (int order = turn == pairs ? 2 : 0; order < 3; order++) {
                int low = order == 0 ? a : numbers.get(a);
                int high = order == 0 ? b : numbers.get(b);
                x.pair(order, low, high);
                y.pair(order, low, high);
            }
        }
        for (int t = 0; t < n; t++) {
            for (int order = 1; order < 3; order++) {
                String call = "28 case " + i + ": same(0, " + order + ", " + t + ")";
                Due.due(call, x.same(0, order, t), y.same(0, order, t));
            }
        }
    }

    /** Each lower THING BELOW two upper ones, round and round; the uppers are numbered behind the lowers. */
    private static void ring(HalfOrders x, int order, int lower, int upper, int many) {
        for (int i = 0; i < many; i++) {
            x.pair(order, lower + i, upper + i);
            x.pair(order, lower + i, upper + (i + 1) % many);
        }
    }

    private static void ringsAreNotOneRing() {
        HalfOrders x = new HalfOrders();
        x.order(10);
        ring(x, 0, 0, 5, 5);
        x.order(10);
        ring(x, 1, 0, 5, 2);
        ring(x, 1, 2, 7, 3);
        for (int t = 0; t < 10; t++) {
            Due.due("28 same(0, 1, " + t + ")", x.same(0, 1, t), -1);
            Due.due("28 same(1, 0, " + t + ")", x.same(1, 0, t), -1);
        }
    }

    private static void twoRowsOfTwo() {
        HalfOrders x = new HalfOrders();
        x.order(4);
        x.pair(0, 0, 1);
        x.pair(0, 2, 3);
        x.order(4);
        x.pair(1, 0, 3);
        x.pair(1, 1, 2);
        int[] due = {0, 3, 1, 2};
        for (int t = 0; t < 4; t++) {
            Due.due("28 same(0, 1, " + t + ")", x.same(0, 1, t), due[t]);
        }
    }
}
