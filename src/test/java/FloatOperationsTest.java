/** Promise 2 for floats: 5b .. 66 and 8b .. a6, against the machine's own floats and by rows written out. */
public final class FloatOperationsTest {
    private static final Check CHECK = new Check();
    private static final long NO_NUMBER_32 = 0x7fc00000L;
    private static final long NO_NUMBER_64 = 0x7ff8000000000000L;

    public static void main(String[] args) {
        testRows();
        signAndStepRows();
        sumRows();
        productRows();
        for (int w = 32; w <= 64; w += 32) {
            long[] edges = Values.floats(w);
            for (long a : edges) {
                one(w, a);
                for (long b : edges) {
                    two(w, a, b);
                }
            }
            Values values = new Values(w);
            for (int i = 0; i < 60000; i++) {
                long a = values.anyFloat(w, (w == 32 ? 127L << 23 : 1023L << 52));
                one(w, a);
                two(w, a, values.anyFloat(w, a));
            }
        }
        for (int i = 0; i < 3000; i++) {
            // What stands above 32 bits is not looked at.
            Values values = new Values(i);
            one(32, values.any());
            two(32, values.any(), values.any());
        }
        CHECK.end();
    }

    private static void testRows() {
        for (int operation = 0x5b; operation <= 0x60; operation++) {
            long unordered = operation == 0x5c ? 1 : 0;
            CHECK.due(operation, 0x7f800001L, 0x7f800001L, unordered);
            CHECK.due(operation, 0L, 0xffc00000L, unordered);
            CHECK.due(operation + 6, 0x7ff0000000000001L, 0x7ff0000000000001L, unordered);
            CHECK.due(operation + 6, -1L, 0L, unordered);
        }
        CHECK.due(0x5b, 0L, 0x80000000L, 1);
        CHECK.due(0x5c, 0L, 0x80000000L, 0);
        CHECK.due(0x5d, 0x80000000L, 0L, 0);
        CHECK.due(0x5d, 0xff800000L, 0xff7fffffL, 1);
        CHECK.due(0x61, 0L, Long.MIN_VALUE, 1);
        CHECK.due(0x64, 0x7ff0000000000000L, 0x7fefffffffffffffL, 1);
    }

    private static void signAndStepRows() {
        CHECK.due(0x8b, 0xff800001L, 0L, 0x7f800001L);
        CHECK.due(0x8c, 0x7f800001L, 0L, 0xff800001L);
        CHECK.due(0x98, 0x7f800001L, 0xffffffffL, 0xff800001L);
        CHECK.due(0x99, -1L, 0L, Long.MAX_VALUE);
        CHECK.due(0x9a, 0L, 0L, Long.MIN_VALUE);
        CHECK.due(0xa6, -1L, 0L, Long.MAX_VALUE);
        CHECK.due(0x8d, 0xbf000000L, 0L, 0x80000000L);
        CHECK.due(0x8d, 1L, 0L, 0x3f800000L);
        CHECK.due(0x8e, 0x80000001L, 0L, 0xbf800000L);
        CHECK.due(0x8e, 1L, 0L, 0);
        CHECK.due(0x8f, 0xbf7fffffL, 0L, 0x80000000L);
        CHECK.due(0x8f, 0xffffffffL, 0L, NO_NUMBER_32);
        CHECK.due(0x90, 0x3f000000L, 0L, 0);
        CHECK.due(0x90, 0xbf000000L, 0L, 0x80000000L);
        CHECK.due(0x90, 0x3f000001L, 0L, 0x3f800000L);
        CHECK.due(0x90, 0x3fc00000L, 0L, 0x40000000L);
        CHECK.due(0x90, 0x40200000L, 0L, 0x40000000L);
        CHECK.due(0x9e, 0x400c000000000000L, 0L, 0x4010000000000000L);
        CHECK.due(0x9b, 0xbfe0000000000000L, 0L, Long.MIN_VALUE);
        CHECK.due(0x9b, 0x7ff0000000000000L, 0L, 0x7ff0000000000000L);
        CHECK.due(0x9f, Long.MIN_VALUE, 0L, Long.MIN_VALUE);
        CHECK.due(0x9f, 0x8000000000000001L, 0L, NO_NUMBER_64);
        CHECK.due(0x9f, 0xfff0000000000000L, 0L, NO_NUMBER_64);
        CHECK.due(0x9f, 0x4000000000000000L, 0L, 0x3ff6a09e667f3bcdL);
        CHECK.due(0x9f, 1L, 0L, 0x1e60000000000000L);
        CHECK.due(0x91, 0x40000000L, 0L, 0x3fb504f3L);
        CHECK.due(0x91, 0x7f800000L, 0L, 0x7f800000L);
    }

    private static void sumRows() {
        CHECK.due(0x92, 0x80000000L, 0x80000000L, 0x80000000L);
        CHECK.due(0x92, 0x80000000L, 0L, 0);
        CHECK.due(0x92, 0x3f800000L, 0xbf800000L, 0);
        CHECK.due(0x93, 0x80000000L, 0L, 0x80000000L);
        CHECK.due(0x93, 0xbf800000L, 0xbf800000L, 0);
        CHECK.due(0x92, 0x7f800000L, 0xff800000L, NO_NUMBER_32);
        CHECK.due(0x93, 0x7f800000L, 0x7f800000L, NO_NUMBER_32);
        CHECK.due(0x93, 0x3f800000L, 0x7f800000L, 0xff800000L);
        // 1 and half a unit: the even one; a little more: the next one.
        CHECK.due(0x92, 0x3f800000L, 0x33800000L, 0x3f800000L);
        CHECK.due(0x92, 0x3f800001L, 0x33800000L, 0x3f800002L);
        CHECK.due(0x92, 0x3f800000L, 0x33800001L, 0x3f800001L);
        // The greatest number and half a unit is infinite, a little less is not.
        CHECK.due(0x92, 0x7f7fffffL, 0x73000000L, 0x7f800000L);
        CHECK.due(0x92, 0x7f7fffffL, 0x72ffffffL, 0x7f7fffffL);
        CHECK.due(0xa0, 0x7fefffffffffffffL, 0x7c90000000000000L, 0x7ff0000000000000L);
        CHECK.due(0xa0, 0x7fefffffffffffffL, 0x7c8fffffffffffffL, 0x7fefffffffffffffL);
        CHECK.due(0xa1, Long.MIN_VALUE, 0L, Long.MIN_VALUE);
        CHECK.due(0xa1, 0x0010000000000000L, 0x000fffffffffffffL, 1);
    }

    private static void productRows() {
        CHECK.due(0x94, 0L, 0x7f800000L, NO_NUMBER_32);
        CHECK.due(0x94, 0x80000000L, 0x3f800000L, 0x80000000L);
        CHECK.due(0x94, 1L, 0x3f000000L, 0);
        CHECK.due(0x94, 0x80000001L, 0x3f000001L, 0x80000001L);
        CHECK.due(0x94, 0xff800000L, 0xbf800000L, 0x7f800000L);
        CHECK.due(0x95, 0L, 0x80000000L, NO_NUMBER_32);
        CHECK.due(0x95, 0x3f800000L, 0x80000000L, 0xff800000L);
        CHECK.due(0x95, 0x7f800000L, 0x7f800000L, NO_NUMBER_32);
        CHECK.due(0x95, 0x3f800000L, 0xff800000L, 0x80000000L);
        CHECK.due(0x95, 0x7f800000L, 0x80000000L, 0xff800000L);
        CHECK.due(0x95, 0x3f800000L, 0x40400000L, 0x3eaaaaabL);
        CHECK.due(0xa3, 0x3ff0000000000000L, 0x4008000000000000L, 0x3fd5555555555555L);
        CHECK.due(0xa2, 0x7fefffffffffffffL, 0x4000000000000000L, 0x7ff0000000000000L);
        CHECK.due(0x96, 0L, 0x80000000L, 0x80000000L);
        CHECK.due(0x96, 0x80000000L, 0L, 0x80000000L);
        CHECK.due(0x97, 0x80000000L, 0L, 0);
        CHECK.due(0x97, 0L, 0x80000000L, 0);
        CHECK.due(0x97, 0x7f800000L, 0xffc00001L, NO_NUMBER_32);
        CHECK.due(0xa4, 0x7ff0000000000001L, 0L, NO_NUMBER_64);
    }

    private static void one(int w, long a) {
        for (int i = 0; i <= 6; i++) {
            // The second value, here one that is no number, is not looked at.
            if (w == 32) {
                CHECK.due(0x8b + i, a, -1L, one32(i, (int) a));
            } else {
                CHECK.due(0x99 + i, a, -1L, one64(i, a));
            }
        }
    }

    private static long one32(int i, int a) {
        if (i == 0) {
            return a & 0x7fffffffL;
        }
        if (i == 1) {
            return (a ^ 0x80000000) & 0xffffffffL;
        }
        // Roots, too, are rounded rightly so: a double has more than twice the bits.
        return bits32((float) reckoned(i, Float.intBitsToFloat(a)));
    }

    private static long one64(int i, long a) {
        if (i == 0) {
            return a & Long.MAX_VALUE;
        }
        if (i == 1) {
            return a ^ Long.MIN_VALUE;
        }
        return Double.doubleToLongBits(reckoned(i, Double.longBitsToDouble(a)));
    }

    private static double reckoned(int i, double x) {
        switch (i) {
            case 2: return Math.ceil(x);
            case 3: return Math.floor(x);
            case 4: return x < 0 ? Math.ceil(x) : Math.floor(x);
            case 5: return Math.rint(x);
            default: return Math.sqrt(x);
        }
    }

    private static void two(int w, long a, long b) {
        for (int i = 0; i <= 5; i++) {
            double x = w == 32 ? Float.intBitsToFloat((int) a) : Double.longBitsToDouble(a);
            double y = w == 32 ? Float.intBitsToFloat((int) b) : Double.longBitsToDouble(b);
            boolean is = new boolean[] {x == y, x != y, x < y, x > y, x <= y, x >= y}[i];
            CHECK.due((w == 32 ? 0x5b : 0x61) + i, a, b, is ? 1 : 0);
        }
        for (int i = 0; i <= 6; i++) {
            if (w == 32) {
                CHECK.due(0x92 + i, a, b, two32(i, (int) a, (int) b));
            } else {
                CHECK.due(0xa0 + i, a, b, two64(i, a, b));
            }
        }
    }

    private static long two32(int i, int a, int b) {
        float x = Float.intBitsToFloat(a);
        float y = Float.intBitsToFloat(b);
        switch (i) {
            case 0: return bits32(x + y);
            case 1: return bits32(x - y);
            case 2: return bits32(x * y);
            case 3: return bits32(x / y);
            case 4: return bits32(Math.min(x, y));
            case 5: return bits32(Math.max(x, y));
            default: return (a & 0x7fffffff | b & 0x80000000) & 0xffffffffL;
        }
    }

    private static long two64(int i, long a, long b) {
        double x = Double.longBitsToDouble(a);
        double y = Double.longBitsToDouble(b);
        switch (i) {
            case 0: return Double.doubleToLongBits(x + y);
            case 1: return Double.doubleToLongBits(x - y);
            case 2: return Double.doubleToLongBits(x * y);
            case 3: return Double.doubleToLongBits(x / y);
            case 4: return Double.doubleToLongBits(Math.min(x, y));
            case 5: return Double.doubleToLongBits(Math.max(x, y));
            default: return a & Long.MAX_VALUE | b & Long.MIN_VALUE;
        }
    }

    private static long bits32(float x) {
        return Float.floatToIntBits(x) & 0xffffffffL;
    }
}
