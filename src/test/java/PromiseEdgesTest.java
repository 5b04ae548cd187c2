/** The boundary cases of promises 1 to 6, each in a test whose name tells the document's sentence. */
public final class PromiseEdgesTest {
    private static final Check CHECK = new Check();

    private static final int FIRST = 0x45;
    private static final int LAST = 0xbf;
    private static final int[] NO_OPERATIONS = {Integer.MIN_VALUE, -LAST, -FIRST, -2, -1, 0, 1, FIRST - 2, FIRST - 1,
        LAST + 1, LAST + 2, 0xff, 0x100 + FIRST, 0x100 + LAST, 0x10000 + FIRST, Integer.MAX_VALUE};

    /** What a new object holds before a call that throws. */
    private static final long KEPT = 0x80000000_80000000L;

    public static void main(String[] args) throws ReflectiveOperationException {
        CHECK.sentences(PromiseEdgesTest.class);
    }

    static void promise1TheLatestAnswerOfANewObjectIs0() {
        CHECK.same("latest()", new BitArithmetic().latest(), 0);
        CHECK.same("next(7c, 5)", Check.next(new BitArithmetic(), 0x7c, 5L), Check.hex(5));
        CHECK.same("into(7d, 5)", Check.into(new BitArithmetic(), 0x7d, 5L), Check.hex(5));
        CHECK.same("next(50, 5)", Check.next(new BitArithmetic(), 0x50, 5L), Check.hex(1));
        CHECK.same("into(7f, 5)", Check.into(new BitArithmetic(), 0x7f, 5L), Check.DIVISION);
        BitArithmetic used = Check.holding(7L);
        CHECK.same("latest() beside one that is used", new BitArithmetic().latest(), 0);
        CHECK.same("latest() of the one that is used", used.latest(), 7);
    }

    static void promises2And3And4BIsNotLookedAtWhenTheOperationHasOneValueAlone() {
        long[] values = {0L, 1L, 0x7fffffffL, 0x80000000L, 0xffffffffL, 0x3f800000L, 0xbfc00000L, 0x7f800000L, 0xff800001L,
            0x3ff8000000000000L, 0xbff0000000000000L, 0x7ff0000000000000L, 0xfff0000000000001L, Long.MIN_VALUE,
            Long.MAX_VALUE, -1L};
        int[][] ranges = {{0x45, 0x45}, {0x50, 0x50}, {0x67, 0x69}, {0x79, 0x7b}, {0x8b, 0x91}, {0x99, 0x9f}, {0xa7, 0xbf}};
        for (int[] range : ranges) {
            for (int operation = range[0]; operation <= range[1]; operation++) {
                for (long a : values) {
                    String due = Check.run(operation, a, 0L);
                    for (long b : values) {
                        CHECK.everyWay(operation, a, b, due);
                    }
                }
            }
        }
    }

    static void promises2And3And4BIsLookedAtWhenTheOperationHasTwoValues() {
        int[][] ranges = {{0x46, 0x4f}, {0x51, 0x66}, {0x6a, 0x78}, {0x7c, 0x8a}, {0x92, 0x98}, {0xa0, 0xa6}};
        long[] values = {0L, 1L, 3L, 0x80000001L, 0x80000000_00000001L};
        for (int[] range : ranges) {
            for (int operation = range[0]; operation <= range[1]; operation++) {
                CHECK.same("whether " + Integer.toHexString(operation) + " looks at b", looksAtB(operation, values), "true");
            }
        }
    }

    private static String looksAtB(int operation, long[] values) {
        boolean differs = false;
        for (long a : values) {
            for (long b : values) {
                differs |= !Check.run(operation, a, b).equals(Check.run(operation, a, values[0]));
            }
        }
        return String.valueOf(differs);
    }

    static void promise2ThereIsNoSuchOperationBelowTheFirstNumberAndAboveTheLast() {
        for (int operation : NO_OPERATIONS) {
            CHECK.same("run(" + operation + ")", Check.run(operation, 1L, 1L), Check.NO_OPERATION);
            // The operation is refused before its values are looked at.
            CHECK.same("run(" + operation + ") by 0", Check.run(operation, 0L, 0L), Check.NO_OPERATION);
            CHECK.same("run(" + operation + ") of no number", Check.run(operation, -1L, -1L), Check.NO_OPERATION);
        }
        everyOneBetweenIsAnOperation("run");
    }

    static void promise3ThereIsNoSuchOperationBelowTheFirstNumberAndAboveTheLast() {
        for (int operation : NO_OPERATIONS) {
            CHECK.same("next(" + operation + ")", Check.next(Check.holding(1L), operation, 1L), Check.NO_OPERATION);
            CHECK.same("next(" + operation + ") of a new one", Check.next(new BitArithmetic(), operation, 0L),
                Check.NO_OPERATION);
        }
        everyOneBetweenIsAnOperation("next");
    }

    static void promise4ThereIsNoSuchOperationBelowTheFirstNumberAndAboveTheLast() {
        for (int operation : NO_OPERATIONS) {
            CHECK.same("into(" + operation + ")", Check.into(Check.holding(1L), operation, 1L), Check.NO_OPERATION);
            CHECK.same("into(" + operation + ") of a new one", Check.into(new BitArithmetic(), operation, 0L),
                Check.NO_OPERATION);
        }
        everyOneBetweenIsAnOperation("into");
    }

    /** With the values 1 and 1 no operation throws. */
    private static void everyOneBetweenIsAnOperation(String way) {
        for (int operation = FIRST; operation <= LAST; operation++) {
            BitArithmetic x = Check.holding(1L);
            String answer = way.equals("run") ? Check.run(x, operation, 1L, 1L)
                : way.equals("next") ? Check.next(x, operation, 1L) : Check.into(x, operation, 1L);
            CHECK.same(way + "(" + Integer.toHexString(operation) + ") throws", String.valueOf(answer.startsWith("throws.")),
                "false");
        }
    }

    static void promise3NextIsTheSameOfTheLatestAnswerAsA() {
        BitArithmetic x = Check.holding(7L);
        CHECK.same("7 - 10", Check.next(x, 0x7d, 10L), Check.hex(-3));
        CHECK.same("-3 / 2", Check.next(x, 0x7f, 2L), Check.hex(-1));
        CHECK.same("the lowest 32 bits of -1, moved down by 31", Check.next(x, 0x76, 31L), Check.hex(1));
        CHECK.same("1 - 2, of 32 bits", Check.next(x, 0x6b, 2L), Check.hex(0xffffffffL));
        CHECK.same("of 64 bits it is no -1", Check.next(x, 0x7c, 1L), Check.hex(0x1_0000_0000L));
        CHECK.same("of 32 bits it is 0", Check.next(x, 0x45, 0L), Check.hex(1));
    }

    static void promise4IntoIsTheSameOfTheLatestAnswerAsB() {
        BitArithmetic x = Check.holding(7L);
        CHECK.same("10 - 7", Check.into(x, 0x7d, 10L), Check.hex(3));
        CHECK.same("-7 / 3", Check.into(x, 0x7f, -7L), Check.hex(-2));
        CHECK.same("1 moved up by -2", Check.into(x, 0x86, 1L), Check.hex(0x4000000000000000L));
        CHECK.same("1 by 0, the lowest 32 bits", Check.into(x, 0x6d, 1L), Check.DIVISION);
        CHECK.same("1 by what it is of 64 bits", Check.into(x, 0x7f, 1L), Check.hex(0));
        CHECK.same("1 by 0", Check.into(x, 0x7f, 1L), Check.DIVISION);
    }

    static void promise5ACallThatThrowsDivisionChangesNothing() {
        for (int operation : new int[] {0x6d, 0x6e, 0x6f, 0x70, 0x7f, 0x80, 0x81, 0x82}) {
            changesNothing(operation, 5L, 0L, Check.DIVISION);
        }
        BitArithmetic x = Check.holding(1L << 32);
        CHECK.same("into(6e, 5)", Check.into(x, 0x6e, 5L), Check.DIVISION);
        CHECK.same("latest() after into", x.latest(), 1L << 32);
    }

    static void promise5ACallThatThrowsOverflowChangesNothing() {
        changesNothing(0x6d, 0x80000000L, -1L, Check.OVERFLOW);
        changesNothing(0x7f, Long.MIN_VALUE, -1L, Check.OVERFLOW);
        for (int operation : new int[] {0xa8, 0xa9, 0xae, 0xaf}) {
            changesNothing(operation, 0x7f800000L, 1L, Check.OVERFLOW);
        }
        for (int operation : new int[] {0xaa, 0xab, 0xb0, 0xb1}) {
            changesNothing(operation, 0x7ff0000000000000L, 1L, Check.OVERFLOW);
        }
    }

    static void promise5ACallThatThrowsUnclearChangesNothing() {
        for (int operation : new int[] {0xa8, 0xa9, 0xae, 0xaf}) {
            changesNothing(operation, 0xff800001L, 1L, Check.UNCLEAR);
        }
        for (int operation : new int[] {0xaa, 0xab, 0xb0, 0xb1}) {
            changesNothing(operation, 0xfff0000000000001L, 1L, Check.UNCLEAR);
        }
    }

    static void promise5ACallThatThrowsBecauseThereIsNoSuchOperationChangesNothing() {
        for (int operation : NO_OPERATIONS) {
            changesNothing(operation, 5L, 3L, Check.NO_OPERATION);
        }
    }

    /** On new objects and on used ones; the calls after it find the same latest answer. */
    private static void changesNothing(int operation, long a, long b, String thrown) {
        String call = "(" + Integer.toHexString(operation) + ", " + Check.hex(a) + ", " + Check.hex(b) + ")";
        BitArithmetic x = new BitArithmetic();
        CHECK.same("run" + call + " of a new one", Check.run(x, operation, a, b), thrown);
        CHECK.same("latest() of a new one after run" + call, x.latest(), 0);
        x = Check.holding(KEPT);
        CHECK.same("run" + call, Check.run(x, operation, a, b), thrown);
        CHECK.same("run" + call + " again", Check.run(x, operation, a, b), thrown);
        goesOn("run" + call, x, KEPT);
        x = Check.holding(a);
        CHECK.same("next" + call, Check.next(x, operation, b), thrown);
        CHECK.same("next" + call + " again", Check.next(x, operation, b), thrown);
        goesOn("next" + call, x, a);
        x = Check.holding(b);
        CHECK.same("into" + call, Check.into(x, operation, a), thrown);
        CHECK.same("into" + call + " again", Check.into(x, operation, a), thrown);
        goesOn("into" + call, x, b);
    }

    private static void goesOn(String call, BitArithmetic x, long kept) {
        CHECK.same("latest() after " + call, x.latest(), kept);
        CHECK.same("1 more after " + call, Check.next(x, 0x7c, 1L), Check.hex(kept + 1L));
        CHECK.same("latest() then", x.latest(), kept + 1L);
        CHECK.same("0 less that", Check.into(x, 0x7d, 0L), Check.hex(-kept - 1L));
    }

    static void promise5LatestAndKindChangeNothing() {
        BitArithmetic x = Check.holding(KEPT);
        for (int operation = FIRST - 1; operation <= LAST + 1; operation++) {
            for (int which = -1; which <= 3; which++) {
                x.kind(operation, which);
                CHECK.same("latest()", x.latest(), KEPT);
            }
        }
    }

    /** An object is used for so many calls at most. */
    static void promise5TheLatestAnswerOfThe512thCall() {
        BitArithmetic x = new BitArithmetic();
        for (int i = 1; i <= 511; i++) {
            CHECK.same("call " + i, Check.next(x, 0x7c, i), Check.hex(i * (i + 1L) / 2L));
        }
        CHECK.same("latest() as call 512", x.latest(), 511L * 512L / 2L);
    }

    static void promise6NoneWhenItHasNoSuchOne() {
        int[] alone = {0x45, 0x50, 0x67, 0x68, 0x69, 0x79, 0x7a, 0x7b, 0x8b, 0x8c, 0x8d, 0x8e, 0x8f, 0x90, 0x91, 0x99, 0x9a,
            0x9b, 0x9c, 0x9d, 0x9e, 0x9f, 0xa7, 0xa8, 0xa9, 0xaa, 0xab, 0xac, 0xad, 0xae, 0xaf, 0xb0, 0xb1, 0xb2, 0xb3, 0xb4,
            0xb5, 0xb6, 0xb7, 0xb8, 0xb9, 0xba, 0xbb, 0xbc, 0xbd, 0xbe, 0xbf};
        int next = 0;
        for (int operation = FIRST; operation <= LAST; operation++) {
            boolean isAlone = next < alone.length && alone[next] == operation;
            next += isAlone ? 1 : 0;
            isNone(operation, 2, isAlone);
            isNone(operation, 1, false);
            isNone(operation, 0, false);
        }
        CHECK.same("operations of one value", next, alone.length);
    }

    static void promise6NoneForAnotherWhich() {
        int[] others = {Integer.MIN_VALUE, -0x100, -3, -2, -1, 3, 4, 5, 0x100, 0x101, 0x102, Integer.MAX_VALUE};
        for (int operation = FIRST; operation <= LAST; operation++) {
            for (int which : others) {
                CHECK.same("kind(" + Integer.toHexString(operation) + ", " + which + ")",
                    new BitArithmetic().kind(operation, which), BitArithmetic.NONE);
            }
        }
    }

    static void promise6NoneWhenThereIsNoSuchOperation() {
        for (int operation : NO_OPERATIONS) {
            for (int which = -2; which <= 4; which++) {
                CHECK.same("kind(" + operation + ", " + which + ")", new BitArithmetic().kind(operation, which),
                    BitArithmetic.NONE);
            }
        }
        CHECK.same("kind(45, 0)", new BitArithmetic().kind(FIRST, 0), 0);
        CHECK.same("kind(bf, 0)", new BitArithmetic().kind(LAST, 0), 3);
    }

    static void promise6NoneIsMinus1() {
        CHECK.same("NONE", BitArithmetic.NONE, -1);
        CHECK.same("kind(67, 2)", new BitArithmetic().kind(0x67, 2), -1);
        CHECK.same("kind(6a, 3)", new BitArithmetic().kind(0x6a, 3), -1);
        CHECK.same("kind(44, 0)", new BitArithmetic().kind(0x44, 0), -1);
    }

    private static void isNone(int operation, int which, boolean due) {
        boolean is = new BitArithmetic().kind(operation, which) == BitArithmetic.NONE;
        CHECK.same("kind(" + Integer.toHexString(operation) + ", " + which + ") is NONE", String.valueOf(is),
            String.valueOf(due));
    }
}
