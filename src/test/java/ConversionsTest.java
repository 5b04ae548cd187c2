import java.math.BigDecimal;
import java.math.BigInteger;

/** Promise 2 for a7 .. bf, against big numbers and by rows written out, and for numbers of no operation. */
public final class ConversionsTest {
    private static final Check CHECK = new Check();

    public static void main(String[] args) {
        cutRows();
        otherRows();
        noOperation();
        for (long a : Values.floats(32)) {
            float32(a);
            float32(a | 0x5555_0000_0000_0000L);
        }
        for (long a : Values.floats(64)) {
            float64(a);
        }
        for (long a : Values.wholes(64)) {
            whole(a);
        }
        Values values = new Values(7);
        for (int i = 0; i < 60000; i++) {
            float32(values.anyFloat(32, 150L << 23));
            float64(values.anyFloat(64, 1060L << 52));
            whole(values.any() >> values.below(64));
            whole(halfway(values));
        }
        CHECK.end();
    }

    /** Whole numbers at, or one beside, the middle of two floats. */
    private static long halfway(Values values) {
        int bits = values.below(2) == 0 ? 24 : 53;
        int more = 1 + values.below(63 - bits);
        long kept = values.any() >>> (64 - bits) | 1L << (bits - 1);
        return (kept << more | 1L << (more - 1)) + values.below(3) - 1;
    }

    private static void cutRows() {
        CHECK.due(0xa8, 0xbf7fffffL, 0L, 0);
        CHECK.due(0xa9, 0xbf7fffffL, 0L, 0);
        CHECK.due(0xa9, 0xbf800000L, 0L, Check.OVERFLOW);
        CHECK.due(0xa8, 0xbf800000L, 0L, 0xffffffffL);
        CHECK.due(0xae, 0xbf800000L, 0L, -1);
        CHECK.due(0xa8, 0x4f000000L, 0L, Check.OVERFLOW);
        CHECK.due(0xa8, 0xcf000000L, 0L, 0x80000000L);
        CHECK.due(0xa9, 0x4f7fffffL, 0L, 0xffffff00L);
        CHECK.due(0xa9, 0x4f800000L, 0L, Check.OVERFLOW);
        CHECK.due(0xaa, 0x41dfffffffffffffL, 0L, 0x7fffffff);
        CHECK.due(0xaa, 0x41e0000000000000L, 0L, Check.OVERFLOW);
        CHECK.due(0xaa, 0xc1e00000001fffffL, 0L, 0x80000000L);
        CHECK.due(0xaa, 0xc1e0000000200000L, 0L, Check.OVERFLOW);
        CHECK.due(0xab, 0x41efffffffffffffL, 0L, 0xffffffffL);
        CHECK.due(0xb0, 0xc3e0000000000000L, 0L, Long.MIN_VALUE);
        CHECK.due(0xb0, 0x43e0000000000000L, 0L, Check.OVERFLOW);
        CHECK.due(0xb1, 0x43efffffffffffffL, 0L, 0xfffffffffffff800L);
        CHECK.due(0xb1, 0x43f0000000000000L, 0L, Check.OVERFLOW);
        CHECK.due(0xb1, Long.MIN_VALUE, 0L, 0);
        for (int operation : new int[] {0xa8, 0xa9, 0xae, 0xaf}) {
            CHECK.due(operation, 0x7f800000L, 0L, Check.OVERFLOW);
            CHECK.due(operation, 0xff800000L, 0L, Check.OVERFLOW);
            CHECK.due(operation, 0x7f800001L, 0L, Check.UNCLEAR);
            CHECK.due(operation, 1L, 0L, 0);
        }
        for (int operation : new int[] {0xaa, 0xab, 0xb0, 0xb1}) {
            CHECK.due(operation, 0x7ff0000000000000L, 0L, Check.OVERFLOW);
            CHECK.due(operation, 0xfff0000000000000L, 0L, Check.OVERFLOW);
            CHECK.due(operation, 0xfff0000000000001L, 0L, Check.UNCLEAR);
            CHECK.due(operation, 0x8000000000000001L, 0L, 0);
        }
    }

    private static void otherRows() {
        CHECK.due(0xa7, -1L, 0L, 0xffffffffL);
        CHECK.due(0xac, 0x80000000L, 0L, -0x80000000L);
        CHECK.due(0xac, 0x7fffffff_00000001L, 0L, 1);
        CHECK.due(0xad, 0xffffffff_80000000L, 0L, 0x80000000L);
        CHECK.due(0xb2, 0L, 0L, 0);
        CHECK.due(0xb2, 16777217L, 0L, 0x4b800000L);
        CHECK.due(0xb3, 0xffffffffL, 0L, 0x4f800000L);
        // The two roundings, to 53 bits and then to 24, would answer another float.
        CHECK.due(0xb4, 0x20000020000001L, 0L, 0x5a000001L);
        CHECK.due(0xb5, -1L, 0L, 0x5f800000L);
        CHECK.due(0xb9, Long.MIN_VALUE, 0L, 0xc3e0000000000000L);
        CHECK.due(0xba, -1L, 0L, 0x43f0000000000000L);
        CHECK.due(0xb6, Long.MIN_VALUE, 0L, 0x80000000L);
        CHECK.due(0xb6, 0xfff0000000000000L, 0L, 0xff800000L);
        CHECK.due(0xb6, 0xfff0000000000001L, 0L, 0x7fc00000L);
        CHECK.due(0xb6, 0x8000000000000001L, 0L, 0x80000000L);
        CHECK.due(0xb6, 0x3690000000000000L, 0L, 0);
        CHECK.due(0xb6, 0x3690000000000001L, 0L, 1);
        CHECK.due(0xb6, 0x47efffffefffffffL, 0L, 0x7f7fffffL);
        CHECK.due(0xb6, 0x47effffff0000000L, 0L, 0x7f800000L);
        CHECK.due(0xbb, 0x80000000L, 0L, Long.MIN_VALUE);
        CHECK.due(0xbb, 0xff800000L, 0L, 0xfff0000000000000L);
        CHECK.due(0xbb, 0xff800001L, 0L, 0x7ff8000000000000L);
        CHECK.due(0xbb, 1L, 0L, 0x36a0000000000000L);
    }

    private static void noOperation() {
        for (int operation = -3; operation <= 0x44; operation++) {
            CHECK.due(operation, 1L, 1L, Check.NO_OPERATION);
        }
        for (int operation = 0xc0; operation <= 0x200; operation++) {
            CHECK.due(operation, 1L, 1L, Check.NO_OPERATION);
        }
        CHECK.due(Integer.MIN_VALUE, 1L, 0L, Check.NO_OPERATION);
        CHECK.due(Integer.MAX_VALUE, 1L, 0L, Check.NO_OPERATION);
        CHECK.due(0x16a, 1L, 0L, Check.NO_OPERATION);
    }

    private static void float32(long a) {
        float x = Float.intBitsToFloat((int) a);
        CHECK.due(0xa8, a, -1L, cut(x, 32, true));
        CHECK.due(0xa9, a, -1L, cut(x, 32, false));
        CHECK.due(0xae, a, -1L, cut(x, 64, true));
        CHECK.due(0xaf, a, -1L, cut(x, 64, false));
        CHECK.due(0xbb, a, -1L, Double.doubleToLongBits(x));
        CHECK.due(0xbc, a, -1L, a & 0xffffffffL);
        CHECK.due(0xbe, a, -1L, a & 0xffffffffL);
    }

    private static void float64(long a) {
        double x = Double.longBitsToDouble(a);
        CHECK.due(0xaa, a, -1L, cut(x, 32, true));
        CHECK.due(0xab, a, -1L, cut(x, 32, false));
        CHECK.due(0xb0, a, -1L, cut(x, 64, true));
        CHECK.due(0xb1, a, -1L, cut(x, 64, false));
        CHECK.due(0xb6, a, -1L, bits32((float) x));
        CHECK.due(0xbd, a, -1L, a);
        CHECK.due(0xbf, a, -1L, a);
    }

    private static String cut(double x, int w, boolean signed) {
        if (x != x) {
            return Check.UNCLEAR;
        }
        if (x - x != 0) {
            return Check.OVERFLOW;
        }
        BigInteger whole = new BigDecimal(x).toBigInteger();
        BigInteger least = signed ? BigInteger.ONE.shiftLeft(w - 1).negate() : BigInteger.ZERO;
        BigInteger end = BigInteger.ONE.shiftLeft(signed ? w - 1 : w);
        if (whole.compareTo(least) < 0 || whole.compareTo(end) >= 0) {
            return Check.OVERFLOW;
        }
        return Check.hex(Values.low(w, whole.longValue()));
    }

    private static void whole(long a) {
        BigInteger s32 = BigInteger.valueOf((int) a);
        BigInteger u32 = BigInteger.valueOf(a & 0xffffffffL);
        BigInteger s64 = BigInteger.valueOf(a);
        BigInteger u64 = s64.mod(BigInteger.ONE.shiftLeft(64));
        CHECK.due(0xa7, a, -1L, u32.longValue());
        CHECK.due(0xac, a, -1L, s32.longValue());
        CHECK.due(0xad, a, -1L, u32.longValue());
        CHECK.due(0xb2, a, -1L, bits32(s32.floatValue()));
        CHECK.due(0xb3, a, -1L, bits32(u32.floatValue()));
        CHECK.due(0xb4, a, -1L, bits32(s64.floatValue()));
        CHECK.due(0xb5, a, -1L, bits32(u64.floatValue()));
        CHECK.due(0xb7, a, -1L, Double.doubleToLongBits(s32.doubleValue()));
        CHECK.due(0xb8, a, -1L, Double.doubleToLongBits(u32.doubleValue()));
        CHECK.due(0xb9, a, -1L, Double.doubleToLongBits(s64.doubleValue()));
        CHECK.due(0xba, a, -1L, Double.doubleToLongBits(u64.doubleValue()));
    }

    private static long bits32(float x) {
        return Float.floatToIntBits(x) & 0xffffffffL;
    }
}
