/** What the tests have in common: calls with the answers that are due, and a count of the wrong ones. */
final class Check {
    static final String NO_OPERATION = "throws.IllegalArgumentException";
    static final String DIVISION = "throws.ArithmeticException";
    static final String OVERFLOW = "throws.IllegalStateException";
    static final String UNCLEAR = "throws.UnsupportedOperationException";

    private static final int MOST_SHOWN = 50;

    private int calls = 0;
    private int wrong = 0;

    /** What run answers, or throws, on a new object. */
    static String run(int operation, long a, long b) {
        return run(new BitArithmetic(), operation, a, b);
    }

    static String run(BitArithmetic x, int operation, long a, long b) {
        try {
            return hex(x.run(operation, a, b));
        } catch (RuntimeException e) {
            return thrown(e);
        }
    }

    static String next(BitArithmetic x, int operation, long b) {
        try {
            return hex(x.next(operation, b));
        } catch (RuntimeException e) {
            return thrown(e);
        }
    }

    static String into(BitArithmetic x, int operation, long a) {
        try {
            return hex(x.into(operation, a));
        } catch (RuntimeException e) {
            return thrown(e);
        }
    }

    static String hex(long value) {
        return Long.toHexString(value);
    }

    private static String thrown(RuntimeException e) {
        return "throws." + e.getClass().getSimpleName();
    }

    void due(int operation, long a, long b, long want) {
        due(operation, a, b, hex(want));
    }

    void due(int operation, long a, long b, String want) {
        String got = run(operation, a, b);
        if (!got.equals(want)) {
            same("run(" + Integer.toHexString(operation) + ", " + hex(a) + ", " + hex(b) + ")", got, want);
        } else {
            calls++;
        }
    }

    void same(String call, long got, long want) {
        same(call, hex(got), hex(want));
    }

    void same(String call, String got, String want) {
        calls++;
        if (got.equals(want)) {
            return;
        }
        wrong++;
        if (wrong <= MOST_SHOWN) {
            System.out.println(call + " answered " + got + ", due is " + want);
        }
    }

    /** The last thing that a test does. */
    void end() {
        System.out.println(calls + " calls, " + wrong + " wrong");
        if (wrong != 0 || calls == 0) {
            System.exit(1);
        }
    }
}
