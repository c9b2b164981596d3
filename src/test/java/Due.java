/** Counts answers, prints those that are not as due, and ends a test. */
final class Due {
    private static int asked = 0;
    private static int wrong = 0;

    private Due() {
    }

    static void due(String call, long got, long want) {
        asked++;
        if (got != want) {
            wrong++;
            if (wrong <= 50) {
                System.out.println(call + " answered " + got + ", due is " + want);
            }
        }
    }

    /** A call that was refused: it answered -1, and the STATUS tells why. */
    static void refused(String call, long got, HalfOrders x, int status) {
        due(call, got, -1);
        due(call + ", status()", x.status(), status);
    }

    /** A call that was done: what it answered, and STATUS 0. */
    static void done(String call, long got, long want, HalfOrders x) {
        due(call, got, want);
        due(call + ", status()", x.status(), 0);
    }

    static void end() {
        System.out.println(asked + " answers, " + wrong + " not as due");
        if (wrong != 0 || asked == 0) {
            System.exit(1);
        }
    }
}
