import java.util.ArrayList;
import java.util.List;

/**
 * All that can be seen of an object, as texts. Each part is asked of an object of its own, since a
 * part may change the object and an object is good for 512 calls alone.
 */
final class Seen {
    interface Part {
        String of(HalfOrders x);
    }

    private Seen() {
    }

    static List<Part> parts() {
        List<Part> parts = new ArrayList<>();
        parts.add(Seen::rows);
        parts.add(Seen::round);
        parts.add(Seen::orders);
        parts.add(Seen::below);
        parts.add(Seen::hand);
        parts.add(Seen::room);
        for (int i = 0; i < 4; i++) {
            int sheet = i;
            parts.add(x -> sheet(x, sheet));
        }
        return parts;
    }

    private static String rows(HalfOrders x) {
        StringBuilder text = new StringBuilder("counts and trace:");
        for (int what = 0; what < 4; what++) {
            text.append(' ').append(x.count(what));
        }
        for (int i = 0; i < 13; i++) {
            text.append(' ').append(x.trace(i));
        }
        return text.toString();
    }

    private static String round(HalfOrders x) {
        StringBuilder text = new StringBuilder("round:");
        for (int i = 0; i < 11; i++) {
            text.append(' ').append(x.round(i));
        }
        return text.toString();
    }

    private static String orders(HalfOrders x) {
        StringBuilder text = new StringBuilder("told:");
        for (int order = 0; order < 8; order++) {
            for (int what = 0; what < 13; what++) {
                text.append(' ').append(x.told(order, what));
            }
        }
        return text.toString();
    }

    private static String below(HalfOrders x) {
        StringBuilder text = new StringBuilder("below:");
        for (int order = 0; order < x.count(0); order++) {
            int n = x.told(order, 1);
            for (int i = 0; i < n * n; i++) {
                text.append(' ').append(x.below(order, i / n, i % n));
            }
        }
        return text.toString();
    }

    private static String hand(HalfOrders x) {
        StringBuilder text = new StringBuilder("hand:");
        int order = x.count(2);
        int n = x.told(order, 1);
        for (int t = -1; t < n; t++) {
            text.append(' ').append(x.lay(order, t)).append(' ').append(x.status());
            for (int what = 0; what < 3; what++) {
                text.append(' ').append(x.hand(what));
            }
            for (int rank = 0; rank < 6; rank++) {
                text.append(' ').append(x.unlike(rank));
            }
        }
        return text.append(' ').append(x.clear()).toString();
    }

    private static String room(HalfOrders x) {
        StringBuilder text = new StringBuilder("room:");
        for (int i = 0; i < 9; i++) {
            text.append(' ').append(x.order(1));
        }
        for (int i = 0; i < 9; i++) {
            text.append(' ').append(x.drop());
        }
        return text.toString();
    }

    /** Sorts and sizes by what is refused, numbers by the pairs that they tell. */
    private static String sheet(HalfOrders x, int sheet) {
        StringBuilder text = new StringBuilder("sheet " + sheet + ":");
        for (int i = 0; i < 8; i++) {
            x.drop();
        }
        x.order(10);
        for (int sort = 0; sort < 3; sort++) {
            for (int n = 1; n <= 10; n++) {
                text.append(' ').append(x.pairs(0, sheet, sort, n)).append(' ').append(x.status());
            }
        }
        for (int i = 0; i < 100; i++) {
            text.append(' ').append(x.below(0, i / 10, i % 10));
        }
        for (int i = 0; i < 20; i++) {
            text.append(' ').append(x.forge(2, i, sheet)).append(' ').append(x.forge(3, i, sheet));
        }
        return text.toString();
    }
}
