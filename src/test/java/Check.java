import java.lang.reflect.Method;
import java.lang.reflect.Modifier;
import java.util.Arrays;
import java.util.Comparator;

/** What the tests have in common: calls with the answers that are due, and a count of the wrong ones. */
final class Check {
    static final String NO_OPERATION = "throws.IllegalArgumentException";
    static final String DIVISION = "throws.ArithmeticException";
    static final String OVERFLOW = "throws.IllegalStateException";
    static final String UNCLEAR = "throws.UnsupportedOperationException";

    private static final int MOST_SHOWN = 50;

    /** Second values that an operation of one value alone must not look at: 0, 1, all 1s, what is no number. */
    private static final long[] NOT_LOOKED_AT = {0L, 1L, -1L, 0x7fc00000L, 0x7ff8000000000000L};

    private int calls = 0;
    private int wrong = 0;
    private String sentence = "";

    /** What run answers, or throws, on a new object. */
    static String run(int operation, long a, long b) {
        return run(new BitArithmetic(), operation, a, b);
    }

    static String run(BitArithmetic x, int operation, long a, long b) {
        try {
            return hex(x.run(operation, a, b));
        } catch (RuntimeException e) {
            return thrown(e);
        }
    }

    static String next(BitArithmetic x, int operation, long b) {
        try {
            return hex(x.next(operation, b));
        } catch (RuntimeException e) {
            return thrown(e);
        }
    }

    static String into(BitArithmetic x, int operation, long a) {
        try {
            return hex(x.into(operation, a));
        } catch (RuntimeException e) {
            return thrown(e);
        }
    }

    static String hex(long value) {
        return Long.toHexString(value);
    }

    private static String thrown(RuntimeException e) {
        return "throws." + e.getClass().getSimpleName();
    }

    void due(int operation, long a, long b, long want) {
        due(operation, a, b, hex(want));
    }

    void due(int operation, long a, long b, String want) {
        String got = run(operation, a, b);
        if (!got.equals(want)) {
            same("run(" + Integer.toHexString(operation) + ", " + hex(a) + ", " + hex(b) + ")", got, want);
        } else {
            calls++;
        }
    }

    /** The answer that is due from run, next and into, each of them on a new object, and as the latest one then. */
    void everyWay(int operation, long a, long b, long want) {
        everyWay(operation, a, b, hex(want));
    }

    void everyWay(int operation, long a, long b, String want) {
        String values = "(" + Integer.toHexString(operation) + ") of " + hex(a) + ", " + hex(b);
        BitArithmetic x = holding(a);
        same("run" + values, run(x, operation, a, b), want);
        latestAfter("run" + values, x, a, want);
        x = holding(a);
        same("next" + values, next(x, operation, b), want);
        latestAfter("next" + values, x, a, want);
        x = holding(b);
        same("into" + values, into(x, operation, a), want);
        latestAfter("into" + values, x, b, want);
    }

    /** The same for an operation of one value alone. */
    void everyWayAlone(int operation, long a, long want) {
        everyWayAlone(operation, a, hex(want));
    }

    void everyWayAlone(int operation, long a, String want) {
        for (long b : NOT_LOOKED_AT) {
            everyWay(operation, a, b, want);
        }
    }

    /** A new object whose latest answer is that value, by bd: the bits of 64 as they are. */
    static BitArithmetic holding(long value) {
        BitArithmetic x = new BitArithmetic();
        x.run(0xbd, value, 0L);
        return x;
    }

    /** A call that throws changes nothing. */
    private void latestAfter(String call, BitArithmetic x, long before, String answer) {
        same("latest after " + call, hex(x.latest()), answer.startsWith("throws.") ? hex(before) : answer);
    }

    void same(String call, long got, long want) {
        same(call, hex(got), hex(want));
    }

    void same(String call, String got, String want) {
        calls++;
        if (got.equals(want)) {
            return;
        }
        wrong++;
        if (wrong <= MOST_SHOWN) {
            System.out.println(sentence + call + " answered " + got + ", due is " + want);
        }
    }

    /**
     * Runs every test of a class: its methods without parameters that are not private. The name of each tells the
     * sentence of the document that it tests, and stands before all that fails in it.
     */
    void sentences(Class<?> tests) throws ReflectiveOperationException {
        Method[] methods = tests.getDeclaredMethods();
        Arrays.sort(methods, Comparator.comparing(Method::getName));
        for (Method method : methods) {
            if (method.getParameterCount() == 0 && !Modifier.isPrivate(method.getModifiers())) {
                sentence(method);
            }
        }
        sentence = "";
        end();
    }

    private void sentence(Method method) throws ReflectiveOperationException {
        int callsBefore = calls;
        int wrongBefore = wrong;
        sentence = method.getName() + ": ";
        method.invoke(null);
        if (calls == callsBefore) {
            same("the test", "nothing", "some call");
        }
        System.out.println((wrong == wrongBefore ? "holds: " : "BROKEN: ") + method.getName());
    }

    /** The last thing that a test does. */
    void end() {
        System.out.println(calls + " calls, " + wrong + " wrong");
        if (wrong != 0 || calls == 0) {
            System.exit(1);
        }
    }
}
