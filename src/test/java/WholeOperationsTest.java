import java.math.BigInteger;

/** Promise 2 for whole numbers: 45 .. 5a and 67 .. 8a, against big numbers and by rows written out. */
public final class WholeOperationsTest {
    private static final Check CHECK = new Check();

    public static void main(String[] args) {
        rows32();
        rows64();
        unsignedDivisionRows();
        unsignedDivisions(32);
        unsignedDivisions(64);
        for (int w = 32; w <= 64; w += 32) {
            long[] edges = Values.wholes(w);
            for (int i = 0; i < edges.length; i++) {
                for (int j = 0; j < edges.length; j += w == 32 ? 1 : 3) {
                    all(w, edges[i], edges[(i + j) % edges.length]);
                }
            }
            Values values = new Values(w);
            for (int i = 0; i < 5000; i++) {
                all(w, values.any() >>> values.below(64), values.any() >>> values.below(64));
                all(w, values.any() >> values.below(64), values.any() >> values.below(64));
            }
        }
        CHECK.end();
    }

    private static void rows32() {
        CHECK.due(0x45, 0L, 7L, 1);
        CHECK.due(0x45, 0x7_0000_0000L, 0L, 1);
        CHECK.due(0x45, 1L, 0L, 0);
        CHECK.due(0x46, -1L, 0xffffffffL, 1);
        CHECK.due(0x48, 0x80000000L, 0L, 1);
        CHECK.due(0x49, 0x80000000L, 0L, 0);
        CHECK.due(0x67, 0L, 0L, 32);
        CHECK.due(0x67, 0xffffffff00000001L, 0L, 31);
        CHECK.due(0x68, 0xffffffff00000000L, 0L, 32);
        CHECK.due(0x69, -1L, 0L, 32);
        CHECK.due(0x6a, 0xffffffffL, 1L, 0);
        CHECK.due(0x6b, 0L, 1L, 0xffffffffL);
        CHECK.due(0x6c, 0xffffffffL, 0xffffffffL, 1);
        CHECK.due(0x6d, 0xfffffff9L, 2L, 0xfffffffdL);
        CHECK.due(0x6d, 7L, 0L, Check.DIVISION);
        CHECK.due(0x6d, 7L, 0x1_0000_0000L, Check.DIVISION);
        CHECK.due(0x6d, 0x80000000L, 0xffffffffL, Check.OVERFLOW);
        CHECK.due(0x6d, 0x80000000L, -1L, Check.OVERFLOW);
        CHECK.due(0x6e, 0x80000000L, 0xffffffffL, 0);
        CHECK.due(0x6e, 7L, 0L, Check.DIVISION);
        CHECK.due(0x6f, 0xfffffff9L, 2L, 0xffffffffL);
        CHECK.due(0x6f, 7L, 0xfffffffeL, 1);
        CHECK.due(0x6f, 0x80000000L, 0xffffffffL, 0);
        CHECK.due(0x6f, 7L, 0L, Check.DIVISION);
        CHECK.due(0x70, 0xffffffffL, 10L, 5);
        CHECK.due(0x70, 7L, 0L, Check.DIVISION);
        CHECK.due(0x74, 1L, 33L, 2);
        CHECK.due(0x75, 0x80000000L, 0xffffffffL, 0xffffffffL);
        CHECK.due(0x76, 0x80000000L, 31L, 1);
        CHECK.due(0x77, 0x80000001L, 1L, 3);
        CHECK.due(0x78, 1L, 1L, 0x80000000L);
        CHECK.due(0x78, 0x12345678L, 32L, 0x12345678L);
    }

    private static void rows64() {
        CHECK.due(0x50, 0x7_0000_0000L, 0L, 0);
        CHECK.due(0x53, Long.MIN_VALUE, 0L, 1);
        CHECK.due(0x54, Long.MIN_VALUE, 0L, 0);
        CHECK.due(0x79, 0L, 0L, 64);
        CHECK.due(0x7a, 0L, 0L, 64);
        CHECK.due(0x7b, -1L, 0L, 64);
        CHECK.due(0x7c, Long.MAX_VALUE, 1L, Long.MIN_VALUE);
        CHECK.due(0x7f, Long.MIN_VALUE, -1L, Check.OVERFLOW);
        CHECK.due(0x7f, Long.MIN_VALUE, 0L, Check.DIVISION);
        CHECK.due(0x7f, -7L, 2L, -3);
        CHECK.due(0x80, Long.MIN_VALUE, -1L, 0);
        CHECK.due(0x80, 1L, 0L, Check.DIVISION);
        CHECK.due(0x81, Long.MIN_VALUE, -1L, 0);
        CHECK.due(0x81, -7L, 2L, -1);
        CHECK.due(0x81, 1L, 0L, Check.DIVISION);
        CHECK.due(0x82, -1L, 10L, 5);
        CHECK.due(0x82, 1L, 0L, Check.DIVISION);
        CHECK.due(0x86, 1L, 65L, 2);
        CHECK.due(0x87, Long.MIN_VALUE, -1L, -1);
        CHECK.due(0x88, Long.MIN_VALUE, 63L, 1);
        CHECK.due(0x89, Long.MIN_VALUE, 65L, 1);
        CHECK.due(0x8a, 1L, 1L, Long.MIN_VALUE);
    }

    /** Values whose highest bit is 1: as a, as b, and as both. */
    private static void unsignedDivisionRows() {
        CHECK.due(0x6e, 0xffffffffL, 10L, 0x19999999L);
        CHECK.due(0x6e, 0x80000000L, 1L, 0x80000000L);
        CHECK.due(0x6e, 0x7fffffffL, 0x80000000L, 0);
        CHECK.due(0x6e, 0xffffffffL, 0x80000000L, 1);
        CHECK.due(0x6e, 0xfffffffeL, 0xffffffffL, 0);
        CHECK.due(0x6e, 0xffffffffL, 0xffffffffL, 1);
        CHECK.due(0x6e, 0xffffffffL, 0L, Check.DIVISION);
        CHECK.due(0x6e, 0x80000000L, 0xffffffff00000000L, Check.DIVISION);
        CHECK.due(0x70, 0x80000000L, 3L, 2);
        CHECK.due(0x70, 0x7fffffffL, 0x80000000L, 0x7fffffffL);
        CHECK.due(0x70, 0xffffffffL, 0x80000000L, 0x7fffffffL);
        CHECK.due(0x70, 0xfffffffeL, 0xffffffffL, 0xfffffffeL);
        CHECK.due(0x70, 0xffffffffL, 0xffffffffL, 0);
        CHECK.due(0x70, 0xffffffffL, 0L, Check.DIVISION);
        CHECK.due(0x70, 0x80000000L, 0xffffffff00000000L, Check.DIVISION);
        CHECK.due(0x80, -1L, 1L, -1);
        CHECK.due(0x80, -1L, 10L, 0x1999999999999999L);
        CHECK.due(0x80, -1L, Long.MAX_VALUE, 2);
        CHECK.due(0x80, -3L, Long.MAX_VALUE, 1);
        CHECK.due(0x80, Long.MIN_VALUE, 1L, Long.MIN_VALUE);
        CHECK.due(0x80, Long.MAX_VALUE, Long.MIN_VALUE, 0);
        CHECK.due(0x80, -1L, Long.MIN_VALUE, 1);
        CHECK.due(0x80, -2L, -1L, 0);
        CHECK.due(0x80, -1L, -1L, 1);
        CHECK.due(0x80, -1L, 0L, Check.DIVISION);
        CHECK.due(0x82, Long.MIN_VALUE, 3L, 2);
        CHECK.due(0x82, -1L, Long.MAX_VALUE, 1);
        CHECK.due(0x82, -3L, Long.MAX_VALUE, 0x7ffffffffffffffeL);
        CHECK.due(0x82, Long.MAX_VALUE, Long.MIN_VALUE, Long.MAX_VALUE);
        CHECK.due(0x82, -1L, Long.MIN_VALUE, Long.MAX_VALUE);
        CHECK.due(0x82, -2L, -1L, -2);
        CHECK.due(0x82, -1L, -1L, 0);
        CHECK.due(0x82, -1L, 0L, Check.DIVISION);
    }

    private static void unsignedDivisions(int w) {
        long highest = 1L << (w - 1);
        long[] edges = Values.wholes(w);
        for (long a : edges) {
            for (long b : edges) {
                if (((a | b) & highest) != 0L) {
                    unsignedDivision(w, a, b);
                }
            }
        }
        Values values = new Values(w + 1);
        for (int i = 0; i < 20000; i++) {
            long a = values.any();
            long b = Values.low(w, values.any());
            unsignedDivision(w, a | highest, b >>> values.below(w));
            unsignedDivision(w, a >>> values.below(w), b | highest);
            unsignedDivision(w, a | highest, b | highest);
            // Near to multiples of b, where a quotient that is 1 too small or too great would show.
            long c = b >>> values.below(w) | 1L;
            long multiple = Long.divideUnsigned(Values.low(w, -1L), c) * c;
            unsignedDivision(w, multiple, c);
            unsignedDivision(w, multiple - 1L, c);
            unsignedDivision(w, multiple - c, c);
        }
    }

    private static void unsignedDivision(int w, long a, long b) {
        int quotient = w == 32 ? 0x6e : 0x80;
        int rest = w == 32 ? 0x70 : 0x82;
        CHECK.due(quotient, a, b, calculated(7, w, a, b));
        CHECK.due(rest, a, b, calculated(9, w, a, b));
    }

    private static void all(int w, long a, long b) {
        int firstTest = w == 32 ? 0x45 : 0x50;
        for (int i = 0; i <= 10; i++) {
            CHECK.due(firstTest + i, a, b, test(i, w, a, b) ? 1 : 0);
        }
        int first = w == 32 ? 0x67 : 0x79;
        for (int i = 0; i <= 17; i++) {
            CHECK.due(first + i, a, b, calculated(i, w, a, b));
        }
    }

    private static BigInteger unsigned(int w, long a) {
        return BigInteger.valueOf(a).mod(BigInteger.ONE.shiftLeft(w));
    }

    private static BigInteger signed(int w, long a) {
        BigInteger u = unsigned(w, a);
        return u.testBit(w - 1) ? u.subtract(BigInteger.ONE.shiftLeft(w)) : u;
    }

    private static boolean test(int i, int w, long a, long b) {
        int s = signed(w, a).compareTo(signed(w, b));
        int u = unsigned(w, a).compareTo(unsigned(w, b));
        return new boolean[] {unsigned(w, a).signum() == 0, u == 0, u != 0, s < 0, u < 0, s > 0, u > 0, s <= 0, u <= 0,
            s >= 0, u >= 0}[i];
    }

    private static String calculated(int i, int w, long a, long b) {
        BigInteger sa = signed(w, a);
        BigInteger sb = signed(w, b);
        BigInteger ua = unsigned(w, a);
        BigInteger ub = unsigned(w, b);
        int n = ub.intValue() & (w - 1);
        if (i >= 6 && i <= 9 && ub.signum() == 0) {
            return Check.DIVISION;
        }
        switch (i) {
            case 0: return hex(w, BigInteger.valueOf(w - ua.bitLength()));
            case 1: return hex(w, BigInteger.valueOf(ua.signum() == 0 ? w : ua.getLowestSetBit()));
            case 2: return hex(w, BigInteger.valueOf(ua.bitCount()));
            case 3: return hex(w, ua.add(ub));
            case 4: return hex(w, ua.subtract(ub));
            case 5: return hex(w, ua.multiply(ub));
            case 6: return sa.divide(sb).bitLength() >= w ? Check.OVERFLOW : hex(w, sa.divide(sb));
            case 7: return hex(w, ua.divide(ub));
            case 8: return hex(w, sa.remainder(sb));
            case 9: return hex(w, ua.remainder(ub));
            case 10: return hex(w, ua.and(ub));
            case 11: return hex(w, ua.or(ub));
            case 12: return hex(w, ua.xor(ub));
            case 13: return hex(w, ua.shiftLeft(n));
            case 14: return hex(w, sa.shiftRight(n));
            case 15: return hex(w, ua.shiftRight(n));
            case 16: return hex(w, ua.shiftLeft(n).or(ua.shiftRight(w - n)));
            default: return hex(w, ua.shiftRight(n).or(ua.shiftLeft(w - n)));
        }
    }

    private static String hex(int w, BigInteger value) {
        return Check.hex(value.mod(BigInteger.ONE.shiftLeft(w)).longValue());
    }
}
