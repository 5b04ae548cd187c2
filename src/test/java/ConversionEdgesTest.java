/** The boundary cases of a7 .. bf, each in a test whose name tells the document's sentence. */
public final class ConversionEdgesTest {
    private static final Check CHECK = new Check();

    private static final int[] CUT_FROM_32 = {0xa8, 0xa9, 0xae, 0xaf};
    private static final int[] CUT_FROM_64 = {0xaa, 0xab, 0xb0, 0xb1};

    public static void main(String[] args) throws ReflectiveOperationException {
        CHECK.sentences(ConversionEdgesTest.class);
    }

    static void theLowest32BitsOfAOf64() {
        alone(0xa7, 0L, 0L);
        alone(0xa7, 0xffffffffL, 0xffffffffL);
        alone(0xa7, 0x1_0000_0000L, 0L);
        alone(0xa7, 0x7fffffff_80000000L, 0x80000000L);
        alone(0xa7, -1L, 0xffffffffL);
    }

    static void unclearItIsNoNumber() {
        for (int operation : CUT_FROM_32) {
            for (long a : Width.OF_32.noNumbers()) {
                CHECK.everyWayAlone(operation, a, Check.UNCLEAR);
            }
        }
        for (int operation : CUT_FROM_64) {
            for (long a : Width.OF_64.noNumbers()) {
                CHECK.everyWayAlone(operation, a, Check.UNCLEAR);
            }
        }
    }

    static void overflowItIsInfinite() {
        for (int operation : CUT_FROM_32) {
            overflow(operation, 0x7f800000L);
            overflow(operation, 0xff800000L);
        }
        for (int operation : CUT_FROM_64) {
            overflow(operation, 0x7ff0000000000000L);
            overflow(operation, 0xfff0000000000000L);
        }
    }

    static void overflowWhatIsCutIsNoSuchNumber_farBeyond() {
        for (int operation : CUT_FROM_32) {
            for (int n = 64; n <= 127; n++) {
                overflow(operation, Width.OF_32.power(n));
                overflow(operation, Width.OF_32.minus(Width.OF_32.power(n)));
            }
            overflow(operation, 0x7f7fffffL);
            overflow(operation, 0xff7fffffL);
        }
        for (int operation : CUT_FROM_64) {
            for (int n = 64; n <= 1023; n += 7) {
                overflow(operation, Width.OF_64.power(n));
                overflow(operation, Width.OF_64.minus(Width.OF_64.power(n)));
            }
            overflow(operation, 0x7fefffffffffffffL);
            overflow(operation, 0xffefffffffffffffL);
        }
    }

    static void overflowWhatIsCutIsNoSuchNumber_floatOf32ToWholeOf32Signed() {
        alone(0xa8, 0x4effffffL, 0x7fffff80L);
        overflow(0xa8, 0x4f000000L);
        alone(0xa8, 0xcf000000L, 0x80000000L);
        overflow(0xa8, 0xcf000001L);
    }

    static void overflowWhatIsCutIsNoSuchNumber_floatOf32ToWholeOf32Unsigned() {
        alone(0xa9, 0x4f000000L, 0x80000000L);
        alone(0xa9, 0x4f7fffffL, 0xffffff00L);
        overflow(0xa9, 0x4f800000L);
        alone(0xa9, 0xbf7fffffL, 0L);
        overflow(0xa9, 0xbf800000L);
        overflow(0xa9, 0xcf000000L);
    }

    static void overflowWhatIsCutIsNoSuchNumber_floatOf64ToWholeOf32Signed() {
        alone(0xaa, 0x41dfffffffc00000L, 0x7fffffffL);
        alone(0xaa, 0x41dfffffffffffffL, 0x7fffffffL);
        overflow(0xaa, 0x41e0000000000000L);
        alone(0xaa, 0xc1e0000000000000L, 0x80000000L);
        alone(0xaa, 0xc1e00000001fffffL, 0x80000000L);
        overflow(0xaa, 0xc1e0000000200000L);
    }

    static void overflowWhatIsCutIsNoSuchNumber_floatOf64ToWholeOf32Unsigned() {
        alone(0xab, 0x41e0000000000000L, 0x80000000L);
        alone(0xab, 0x41efffffffe00000L, 0xffffffffL);
        alone(0xab, 0x41efffffffffffffL, 0xffffffffL);
        overflow(0xab, 0x41f0000000000000L);
        alone(0xab, 0xbfefffffffffffffL, 0L);
        overflow(0xab, 0xbff0000000000000L);
        overflow(0xab, 0xc1e0000000000000L);
    }

    static void overflowWhatIsCutIsNoSuchNumber_floatOf32ToWholeOf64Signed() {
        alone(0xae, 0x5effffffL, 0x7fffff8000000000L);
        overflow(0xae, 0x5f000000L);
        alone(0xae, 0xdf000000L, 0x8000000000000000L);
        overflow(0xae, 0xdf000001L);
    }

    static void overflowWhatIsCutIsNoSuchNumber_floatOf32ToWholeOf64Unsigned() {
        alone(0xaf, 0x5f000000L, 0x8000000000000000L);
        alone(0xaf, 0x5f7fffffL, 0xffffff0000000000L);
        overflow(0xaf, 0x5f800000L);
        alone(0xaf, 0xbf7fffffL, 0L);
        overflow(0xaf, 0xbf800000L);
        overflow(0xaf, 0xdf000000L);
    }

    static void overflowWhatIsCutIsNoSuchNumber_floatOf64ToWholeOf64Signed() {
        alone(0xb0, 0x43dfffffffffffffL, 0x7ffffffffffffc00L);
        overflow(0xb0, 0x43e0000000000000L);
        alone(0xb0, 0xc3e0000000000000L, 0x8000000000000000L);
        overflow(0xb0, 0xc3e0000000000001L);
    }

    static void overflowWhatIsCutIsNoSuchNumber_floatOf64ToWholeOf64Unsigned() {
        alone(0xb1, 0x43e0000000000000L, 0x8000000000000000L);
        alone(0xb1, 0x43efffffffffffffL, 0xfffffffffffff800L);
        overflow(0xb1, 0x43f0000000000000L);
        alone(0xb1, 0xbfefffffffffffffL, 0L);
        overflow(0xb1, 0xbff0000000000000L);
        overflow(0xb1, 0xc3e0000000000000L);
    }

    static void cutTowards0_whatIsBelow1Is0() {
        cutTo0(Width.OF_32, CUT_FROM_32);
        cutTo0(Width.OF_64, CUT_FROM_64);
    }

    private static void cutTo0(Width x, int[] operations) {
        long[] amounts = {0L, x.greatestWithExponent0(), x.one() - 1L};
        for (int operation : operations) {
            for (long a : amounts) {
                alone(operation, a, 0L);
                alone(operation, x.minus(a), 0L);
            }
            for (int n = -1; n >= 1 - x.b - x.f; n--) {
                alone(operation, x.power(n), 0L);
                alone(operation, x.minus(x.power(n)), 0L);
            }
        }
    }

    static void cutTowards0_onBothSides() {
        cutOnBothSides(Width.OF_32, new int[] {0xa8, 0xa9}, 32);
        cutOnBothSides(Width.OF_32, new int[] {0xae, 0xaf}, 64);
        cutOnBothSides(Width.OF_64, new int[] {0xaa, 0xab}, 32);
        cutOnBothSides(Width.OF_64, new int[] {0xb0, 0xb1}, 64);
    }

    /** The operations for s and u. */
    private static void cutOnBothSides(Width x, int[] operations, int w) {
        long[] from = {x.one(), x.one() + 1L, x.oneAndAHalf(), x.power(1) - 1L, x.power(1), x.power(20) - 1L, x.power(20)};
        long[] due = {1L, 1L, 1L, 1L, 2L, (1L << 20) - 1L, 1L << 20};
        for (int i = 0; i < from.length; i++) {
            alone(operations[0], from[i], due[i]);
            alone(operations[0], x.minus(from[i]), Values.low(w, -due[i]));
            alone(operations[1], from[i], due[i]);
            overflow(operations[1], x.minus(from[i]));
        }
    }

    static void aOf32BitsSignedAndUnsignedAsAWholeNumberOf64() {
        alone(0xac, 0L, 0L);
        alone(0xac, 0x7fffffffL, 0x7fffffffL);
        alone(0xac, 0x80000000L, 0xffffffff_80000000L);
        alone(0xac, 0xffffffffL, -1L);
        alone(0xac, 0xffffffff_7fffffffL, 0x7fffffffL);
        alone(0xad, 0L, 0L);
        alone(0xad, 0x7fffffffL, 0x7fffffffL);
        alone(0xad, 0x80000000L, 0x80000000L);
        alone(0xad, 0xffffffffL, 0xffffffffL);
        alone(0xad, -1L, 0xffffffffL);
    }

    static void theWholeNumber0IsRoundedToPlus0() {
        for (int operation : new int[] {0xb2, 0xb3, 0xb4, 0xb5, 0xb7, 0xb8, 0xb9, 0xba}) {
            alone(operation, 0L, 0L);
        }
        // What is above the lowest 32 bits does not make it another one.
        for (int operation : new int[] {0xb2, 0xb3, 0xb7, 0xb8}) {
            alone(operation, 0xffffffff_00000000L, 0L);
        }
    }

    static void wholeNumbersToFloats_theLeastAndTheGreatest() {
        alone(0xb2, 0x7fffffffL, 0x4f000000L);
        alone(0xb2, 0x80000000L, 0xcf000000L);
        alone(0xb2, 0xffffffffL, 0xbf800000L);
        alone(0xb3, 0x80000000L, 0x4f000000L);
        alone(0xb3, 0xffffffffL, 0x4f800000L);
        alone(0xb3, 0xffffff7fL, 0x4f7fffffL);
        alone(0xb3, 0xffffff80L, 0x4f800000L);
        alone(0xb4, 0x7fffffffffffffffL, 0x5f000000L);
        alone(0xb4, 0x8000000000000000L, 0xdf000000L);
        alone(0xb4, -1L, 0xbf800000L);
        alone(0xb5, 0x8000000000000000L, 0x5f000000L);
        alone(0xb5, -1L, 0x5f800000L);
        alone(0xb5, 0xffffff7fffffffffL, 0x5f7fffffL);
        alone(0xb5, 0xffffff8000000000L, 0x5f800000L);
        alone(0xb7, 0x7fffffffL, 0x41dfffffffc00000L);
        alone(0xb7, 0x80000000L, 0xc1e0000000000000L);
        alone(0xb7, 0xffffffffL, 0xbff0000000000000L);
        alone(0xb8, 0x80000000L, 0x41e0000000000000L);
        alone(0xb8, 0xffffffffL, 0x41efffffffe00000L);
        alone(0xb9, 0x7fffffffffffffffL, 0x43e0000000000000L);
        alone(0xb9, 0x8000000000000000L, 0xc3e0000000000000L);
        alone(0xb9, -1L, 0xbff0000000000000L);
        alone(0xba, 0x8000000000000000L, 0x43e0000000000000L);
        alone(0xba, -1L, 0x43f0000000000000L);
        alone(0xba, 0xfffffffffffffbffL, 0x43efffffffffffffL);
        alone(0xba, 0xfffffffffffffc00L, 0x43f0000000000000L);
    }

    /** To 53 bits and then to 24, these would come to the middle first. */
    static void wholeNumbersToFloats_roundedOnce() {
        alone(0xb4, 0x4000004000000001L, 0x5e800001L);
        alone(0xb4, 0xbfffffbfffffffffL, 0xde800001L);
        alone(0xb5, 0x8000008000000001L, 0x5f000001L);
        alone(0xb5, 0x8000017fffffffffL, 0x5f000001L);
    }

    static void zerosAndInfiniteOnesKeepTheirSigns() {
        alone(0xb6, 0L, 0L);
        alone(0xb6, 0x8000000000000000L, 0x80000000L);
        alone(0xb6, 0x7ff0000000000000L, 0x7f800000L);
        alone(0xb6, 0xfff0000000000000L, 0xff800000L);
        alone(0xbb, 0L, 0L);
        alone(0xbb, 0x80000000L, 0x8000000000000000L);
        alone(0xbb, 0x7f800000L, 0x7ff0000000000000L);
        alone(0xbb, 0xff800000L, 0xfff0000000000000L);
    }

    static void theFloatOf32AsOneOf64AndBackIsTheSame() {
        for (long a : Width.OF_32.others()) {
            BitArithmetic x = new BitArithmetic();
            x.run(0xbb, a, 0L);
            CHECK.same("b6 of bb of " + Check.hex(a), Check.next(x, 0xb6, 0L), Check.hex(a));
        }
        alone(0xbb, 0x7f7fffffL, 0x47efffffe0000000L);
        alone(0xbb, 0xff7fffffL, 0xc7efffffe0000000L);
        alone(0xbb, 0x00800000L, 0x3810000000000000L);
        alone(0xbb, 0x00000001L, 0x36a0000000000000L);
    }

    static void theBitsOfAAsTheyAreOf32AndOf64() {
        long[] rows = {0L, 1L, 0x7fffffffL, 0x80000000L, 0xffffffffL, 0x7f800001L, 0xff800001L, 0xffc00000L, 1L << 32,
            0x7ff0000000000001L, 0xfff0000000000001L, 0xfff8000000000000L, 0x8000000000000000L, 0x7fffffffffffffffL, -1L};
        for (long a : rows) {
            alone(0xbc, a, a & 0xffffffffL);
            alone(0xbd, a, a);
            alone(0xbe, a, a & 0xffffffffL);
            alone(0xbf, a, a);
        }
    }

    private static void alone(int operation, long a, long due) {
        CHECK.everyWayAlone(operation, a, due);
    }

    private static void overflow(int operation, long a) {
        CHECK.everyWayAlone(operation, a, Check.OVERFLOW);
    }
}
