/** Promises 1, 3, 4 and 5: the latest answer, of a new object and in chains of calls. */
public final class LatestAnswerTest {
    private static final Check CHECK = new Check();

    public static void main(String[] args) {
        newObject();
        next();
        into();
        throwingChangesNothing();
        askingChangesNothing();
        objectsAreApart();
        allOperations();
        CHECK.end();
    }

    private static void newObject() {
        CHECK.same("latest() of a new one", new BitArithmetic().latest(), 0);
        CHECK.same("next of a new one", Check.next(new BitArithmetic(), 0x6a, 5L), Check.hex(5));
        CHECK.same("into of a new one", Check.into(new BitArithmetic(), 0x6d, 5L), Check.DIVISION);
        CHECK.same("eqz of a new one", Check.next(new BitArithmetic(), 0x50, 5L), Check.hex(1));
    }

    private static void next() {
        BitArithmetic x = new BitArithmetic();
        CHECK.same("run 10", Check.run(x, 0x7c, 7L, 3L), Check.hex(10));
        CHECK.same("10 - 4", Check.next(x, 0x7d, 4L), Check.hex(6));
        CHECK.same("latest", x.latest(), 6);
        CHECK.same("6 / -2", Check.next(x, 0x7f, -2L), Check.hex(-3));
        CHECK.same("lowest 32 bits of -3, by 0", Check.next(x, 0x6e, 0L), Check.DIVISION);
        CHECK.same("lowest 32 bits of -3, by 1", Check.next(x, 0x6e, 1L), Check.hex(0xfffffffdL));
        CHECK.same("latest", x.latest(), 0xfffffffdL);
        CHECK.same("leading 0s", Check.next(x, 0x79, 77L), Check.hex(32));
        CHECK.same("no operation", Check.next(x, 0xc0, 77L), Check.NO_OPERATION);
        CHECK.same("latest", x.latest(), 32);
    }

    private static void into() {
        BitArithmetic x = new BitArithmetic();
        CHECK.same("run 10", Check.run(x, 0x7c, 7L, 3L), Check.hex(10));
        CHECK.same("4 - 10", Check.into(x, 0x7d, 4L), Check.hex(-6));
        CHECK.same("latest", x.latest(), -6);
        CHECK.same("13 / -6", Check.into(x, 0x7f, 13L), Check.hex(-2));
        CHECK.same("one value: the one that is given", Check.into(x, 0x7b, 7L), Check.hex(3));
        CHECK.same("1 moved up by 3", Check.into(x, 0x74, 1L), Check.hex(8));
        CHECK.same("no operation", Check.into(x, 0x44, 77L), Check.NO_OPERATION);
        CHECK.same("cut of what is no number", Check.into(x, 0xa8, 0x7fc00000L), Check.UNCLEAR);
        CHECK.same("latest", x.latest(), 8);
    }

    private static void throwingChangesNothing() {
        BitArithmetic x = new BitArithmetic();
        Check.run(x, 0x7c, Long.MIN_VALUE, 0L);
        CHECK.same("division", Check.run(x, 0x70, 1L, 0L), Check.DIVISION);
        CHECK.same("latest", x.latest(), Long.MIN_VALUE);
        CHECK.same("overflow", Check.next(x, 0x7f, -1L), Check.OVERFLOW);
        CHECK.same("latest", x.latest(), Long.MIN_VALUE);
        CHECK.same("division by the lowest 32 bits", Check.into(x, 0x6f, 1L), Check.DIVISION);
        CHECK.same("latest", x.latest(), Long.MIN_VALUE);
        CHECK.same("overflow of a cut", Check.run(x, 0xb1, 0xbff0000000000000L, 0L), Check.OVERFLOW);
        CHECK.same("latest", x.latest(), Long.MIN_VALUE);
        CHECK.same("unclear", Check.run(x, 0xb0, -1L, 0L), Check.UNCLEAR);
        CHECK.same("latest", x.latest(), Long.MIN_VALUE);
        CHECK.same("no operation", Check.run(x, -1, 0L, 0L), Check.NO_OPERATION);
        CHECK.same("latest", x.latest(), Long.MIN_VALUE);
    }

    private static void askingChangesNothing() {
        BitArithmetic x = new BitArithmetic();
        Check.run(x, 0x7c, 40L, 2L);
        x.kind(0xbf, 0);
        x.kind(0, 0);
        x.latest();
        CHECK.same("latest", x.latest(), 42);
    }

    private static void objectsAreApart() {
        BitArithmetic x = new BitArithmetic();
        BitArithmetic y = new BitArithmetic();
        Check.run(x, 0x7c, 40L, 2L);
        CHECK.same("latest of another", y.latest(), 0);
        Check.run(y, 0x7c, 1L, 2L);
        CHECK.same("latest of the first", x.latest(), 42);
    }

    /** next and into answer what run answers for the same values, and what is answered is kept. */
    private static void allOperations() {
        Values values = new Values(3);
        for (int operation = 0x40; operation <= 0xc4; operation++) {
            for (int i = 0; i < 200; i++) {
                long a = values.any() >> values.below(64);
                long b = values.any() >> values.below(64);
                CHECK.everyWay(operation, a, b, Check.run(operation, a, b));
            }
        }
    }
}
