/** The boundary cases of 45 .. 5a and 67 .. 8a, each in a test whose name tells the document's sentence. */
public final class WholeEdgesTest {
    private static final Check CHECK = new Check();

    public static void main(String[] args) throws ReflectiveOperationException {
        CHECK.sentences(WholeEdgesTest.class);
    }

    static void oneIfAIs0Else0() {
        for (Width x : Width.BOTH) {
            CHECK.everyWayAlone(x.operation(0x45), 0L, 1);
            for (int i = 0; i < x.w; i++) {
                CHECK.everyWayAlone(x.operation(0x45), 1L << i, 0);
            }
            CHECK.everyWayAlone(x.operation(0x45), -1L, 0);
        }
        CHECK.everyWayAlone(0x45, 1L << 32, 1);
        CHECK.everyWayAlone(0x50, 1L << 32, 0);
    }

    static void oneIfItIsSoElse0_equalValues() {
        for (Width x : Width.BOTH) {
            long[] values = {0L, 1L, x.greatestSigned(), x.least(), x.greatestUnsigned()};
            for (long a : values) {
                for (int i = 0; i < 10; i++) {
                    CHECK.everyWay(x.operation(0x46 + i), a, a, "1000001111".charAt(i) - '0');
                }
            }
        }
    }

    static void oneIfItIsSoElse0_values1Apart() {
        for (Width x : Width.BOTH) {
            apart(x, 0L, 1L, "0111001100");
            apart(x, 1L, 0L, "0100110011");
            apart(x, x.greatestUnsigned(), 0L, "0110011001");
            apart(x, 0L, x.greatestUnsigned(), "0101100110");
            apart(x, x.greatestSigned(), x.least(), "0101100110");
            apart(x, x.least(), x.greatestSigned(), "0110011001");
            apart(x, x.greatestUnsigned() - 1L, x.greatestUnsigned(), "0111001100");
            apart(x, x.least() + 1L, x.least(), "0100110011");
        }
    }

    /** The answers of 46 .. 4f or 51 .. 5a. */
    private static void apart(Width x, long a, long b, String due) {
        for (int i = 0; i < 10; i++) {
            CHECK.everyWay(x.operation(0x46 + i), a, b, due.charAt(i) - '0');
        }
    }

    static void zerosAboveTheHighest1AreWWhenThereIsNone() {
        for (Width x : Width.BOTH) {
            CHECK.everyWayAlone(x.operation(0x67), 0L, x.w);
            for (int i = 0; i < x.w; i++) {
                CHECK.everyWayAlone(x.operation(0x67), 1L << i, x.w - 1 - i);
                CHECK.everyWayAlone(x.operation(0x67), (1L << i) - 1L | 1L << i, x.w - 1 - i);
            }
        }
        CHECK.everyWayAlone(0x67, 0xffffffff_00000000L, 32);
    }

    static void zerosBelowTheLowest1AreWWhenThereIsNone() {
        for (Width x : Width.BOTH) {
            CHECK.everyWayAlone(x.operation(0x68), 0L, x.w);
            for (int i = 0; i < x.w; i++) {
                CHECK.everyWayAlone(x.operation(0x68), 1L << i, i);
                CHECK.everyWayAlone(x.operation(0x68), -1L << i, i);
            }
        }
        CHECK.everyWayAlone(0x68, 0xffffffff_00000000L, 32);
    }

    static void howMany1sFrom0ToW() {
        for (Width x : Width.BOTH) {
            CHECK.everyWayAlone(x.operation(0x69), 0L, 0);
            CHECK.everyWayAlone(x.operation(0x69), -1L, x.w);
            for (int i = 0; i < x.w; i++) {
                CHECK.everyWayAlone(x.operation(0x69), 1L << i, 1);
                CHECK.everyWayAlone(x.operation(0x69), ~(1L << i), x.w - 1);
            }
        }
    }

    static void quotientsAreCutTowards0() {
        for (Width x : Width.BOTH) {
            long minus7 = x.whole(-7L);
            long minus2 = x.whole(-2L);
            CHECK.everyWay(x.operation(0x6d), 7L, 2L, 3);
            CHECK.everyWay(x.operation(0x6d), minus7, 2L, x.whole(-3L));
            CHECK.everyWay(x.operation(0x6d), 7L, minus2, x.whole(-3L));
            CHECK.everyWay(x.operation(0x6d), minus7, minus2, 3);
            CHECK.everyWay(x.operation(0x6d), x.whole(-1L), 2L, 0);
            CHECK.everyWay(x.operation(0x6d), 1L, minus2, 0);
            CHECK.everyWay(x.operation(0x6d), x.greatestSigned(), x.least(), 0);
            CHECK.everyWay(x.operation(0x6d), x.least(), x.greatestSigned(), x.whole(-1L));
            CHECK.everyWay(x.operation(0x6e), 7L, 2L, 3);
            CHECK.everyWay(x.operation(0x6e), x.greatestUnsigned(), 2L, x.greatestSigned());
            CHECK.everyWay(x.operation(0x6e), x.greatestUnsigned() - 1L, x.greatestUnsigned(), 0);
            CHECK.everyWay(x.operation(0x6e), x.greatestUnsigned(), x.least(), 1);
        }
    }

    static void quotientsWhenBIs0AreADivision() {
        for (Width x : Width.BOTH) {
            for (long a : new long[] {0L, 1L, x.greatestSigned(), x.least(), x.greatestUnsigned()}) {
                CHECK.everyWay(x.operation(0x6d), a, 0L, Check.DIVISION);
                CHECK.everyWay(x.operation(0x6e), a, 0L, Check.DIVISION);
            }
        }
        CHECK.everyWay(0x6d, 1L, 1L << 32, Check.DIVISION);
        CHECK.everyWay(0x6e, 1L, 0xffffffff_00000000L, Check.DIVISION);
        CHECK.everyWay(0x7f, 1L, 1L << 32, 0);
        CHECK.everyWay(0x80, 1L, 0xffffffff_00000000L, 0);
    }

    static void aSignedQuotientOf2ToThe_WLess1_IsAnOverflow() {
        for (Width x : Width.BOTH) {
            long minus1 = x.whole(-1L);
            CHECK.everyWay(x.operation(0x6d), x.least(), minus1, Check.OVERFLOW);
            CHECK.everyWay(x.operation(0x6d), x.least() + 1L, minus1, x.greatestSigned());
            CHECK.everyWay(x.operation(0x6d), x.greatestSigned(), minus1, x.least() + 1L);
            CHECK.everyWay(x.operation(0x6d), x.least(), x.whole(-2L), x.least() >>> 1);
            CHECK.everyWay(x.operation(0x6d), x.least(), 1L, x.least());
            CHECK.everyWay(x.operation(0x6d), x.least(), x.least(), 1);
            CHECK.everyWay(x.operation(0x6d), 0L, minus1, 0);
        }
        // The least one of 32 bits is an ordinary number of 64.
        CHECK.everyWay(0x7f, -0x80000000L, -1L, 0x80000000L);
    }

    static void anUnsignedQuotientIsNeverAnOverflow() {
        for (Width x : Width.BOTH) {
            CHECK.everyWay(x.operation(0x6e), x.least(), x.greatestUnsigned(), 0);
            CHECK.everyWay(x.operation(0x6e), x.least(), 1L, x.least());
            CHECK.everyWay(x.operation(0x6e), x.greatestUnsigned(), 1L, x.greatestUnsigned());
        }
    }

    static void restsWhenBIs0AreADivision() {
        for (Width x : Width.BOTH) {
            for (long a : new long[] {0L, 1L, x.greatestSigned(), x.least(), x.greatestUnsigned()}) {
                CHECK.everyWay(x.operation(0x6f), a, 0L, Check.DIVISION);
                CHECK.everyWay(x.operation(0x70), a, 0L, Check.DIVISION);
            }
        }
        CHECK.everyWay(0x6f, 1L, 1L << 32, Check.DIVISION);
        CHECK.everyWay(0x70, 1L, 0xffffffff_00000000L, Check.DIVISION);
        CHECK.everyWay(0x81, 1L, 1L << 32, 1);
        CHECK.everyWay(0x82, 1L, 0xffffffff_00000000L, 1);
    }

    static void theRestIs0InTheCaseOfThatOverflow() {
        for (Width x : Width.BOTH) {
            CHECK.everyWay(x.operation(0x6f), x.least(), x.whole(-1L), 0);
            // The unsigned rest knows no such case.
            CHECK.everyWay(x.operation(0x70), x.least(), x.whole(-1L), x.least());
        }
        CHECK.everyWay(0x6f, 0xffffffff_80000000L, -1L, 0);
    }

    static void theSignedRestHasTheSignOfA() {
        for (Width x : Width.BOTH) {
            long minus7 = x.whole(-7L);
            long minus2 = x.whole(-2L);
            CHECK.everyWay(x.operation(0x6f), 7L, 2L, 1);
            CHECK.everyWay(x.operation(0x6f), 7L, minus2, 1);
            CHECK.everyWay(x.operation(0x6f), minus7, 2L, x.whole(-1L));
            CHECK.everyWay(x.operation(0x6f), minus7, minus2, x.whole(-1L));
            CHECK.everyWay(x.operation(0x6f), x.whole(-8L), 2L, 0);
            CHECK.everyWay(x.operation(0x6f), x.whole(-1L), x.least(), x.whole(-1L));
            CHECK.everyWay(x.operation(0x6f), x.least(), x.greatestSigned(), x.whole(-1L));
            CHECK.everyWay(x.operation(0x6f), x.greatestSigned(), x.least(), x.greatestSigned());
        }
    }

    static void theUnsignedRestIsThatOfTheUnsignedQuotient() {
        for (Width x : Width.BOTH) {
            CHECK.everyWay(x.operation(0x70), x.greatestUnsigned(), 2L, 1);
            CHECK.everyWay(x.operation(0x70), x.greatestUnsigned(), 10L, 5);
            CHECK.everyWay(x.operation(0x70), x.greatestUnsigned(), x.least(), x.greatestSigned());
            CHECK.everyWay(x.operation(0x70), x.greatestUnsigned() - 1L, x.greatestUnsigned(), x.greatestUnsigned() - 1L);
            CHECK.everyWay(x.operation(0x70), x.greatestUnsigned(), x.greatestUnsigned(), 0);
        }
    }

    static void bitsThatBothHaveOneOfBothJustOneOfBoth() {
        for (Width x : Width.BOTH) {
            for (int a = 0; a <= 1; a++) {
                for (int b = 0; b <= 1; b++) {
                    for (int i = 0; i < x.w; i += x.w - 1) {
                        CHECK.everyWay(x.operation(0x71), (long) a << i, (long) b << i, (long) (a * b) << i);
                        CHECK.everyWay(x.operation(0x72), (long) a << i, (long) b << i, (long) (a + b - a * b) << i);
                        CHECK.everyWay(x.operation(0x73), (long) a << i, (long) b << i, (long) ((a + b) % 2) << i);
                    }
                }
            }
        }
    }

    static void movedByBModuloW() {
        for (Width x : Width.BOTH) {
            long a = x.whole(0x8123456789abcdefL | 1L << 31);
            for (int operation = 0x74; operation <= 0x78; operation++) {
                CHECK.everyWay(x.operation(operation), a, 0L, a);
                CHECK.everyWay(x.operation(operation), a, x.w, a);
                CHECK.everyWay(x.operation(operation), a, 2L * x.w, a);
                CHECK.everyWay(x.operation(operation), a, x.least(), a);
                for (int n = 1; n < x.w; n++) {
                    String due = Check.run(x.operation(operation), a, n);
                    CHECK.everyWay(x.operation(operation), a, n + x.w, due);
                    CHECK.everyWay(x.operation(operation), a, n + 8L * x.w, due);
                    CHECK.everyWay(x.operation(operation), a, x.whole(n - x.w), due);
                    CHECK.everyWay(x.operation(operation), a, x.least() + n, due);
                }
            }
        }
        // 32 is 0 modulo 32, and itself modulo 64.
        CHECK.everyWay(0x74, 1L, 32L, 1);
        CHECK.everyWay(0x86, 1L, 32L, 0x1_0000_0000L);
    }

    static void movedUpByN() {
        for (Width x : Width.BOTH) {
            CHECK.everyWay(x.operation(0x74), 1L, x.w - 1, x.least());
            CHECK.everyWay(x.operation(0x74), 2L, x.w - 1, 0);
            CHECK.everyWay(x.operation(0x74), x.least(), 1L, 0);
            CHECK.everyWay(x.operation(0x74), x.greatestUnsigned(), 1L, x.greatestUnsigned() - 1L);
        }
    }

    static void movedDownByNWithCopiesOfTheHighestBit() {
        for (Width x : Width.BOTH) {
            CHECK.everyWay(x.operation(0x75), x.least(), 1L, x.least() | x.least() >>> 1);
            CHECK.everyWay(x.operation(0x75), x.least(), x.w - 1, x.greatestUnsigned());
            CHECK.everyWay(x.operation(0x75), x.greatestUnsigned(), 1L, x.greatestUnsigned());
            CHECK.everyWay(x.operation(0x75), x.greatestSigned(), 1L, x.greatestSigned() >>> 1);
            CHECK.everyWay(x.operation(0x75), x.greatestSigned(), x.w - 1, 0);
        }
    }

    static void movedDownByNWith0s() {
        for (Width x : Width.BOTH) {
            CHECK.everyWay(x.operation(0x76), x.least(), 1L, x.least() >>> 1);
            CHECK.everyWay(x.operation(0x76), x.least(), x.w - 1, 1);
            CHECK.everyWay(x.operation(0x76), x.greatestUnsigned(), 1L, x.greatestSigned());
            CHECK.everyWay(x.operation(0x76), x.greatestUnsigned(), x.w - 1, 1);
            CHECK.everyWay(x.operation(0x76), x.greatestSigned(), x.w - 1, 0);
        }
    }

    static void turnedWhatGoesOutAtOneEndComesInAtTheOther() {
        for (Width x : Width.BOTH) {
            for (int n = 0; n < x.w; n++) {
                CHECK.everyWay(x.operation(0x77), 1L, n, 1L << n);
                CHECK.everyWay(x.operation(0x77), x.least(), n, n == 0 ? x.least() : 1L << (n - 1));
                CHECK.everyWay(x.operation(0x78), 1L, n, n == 0 ? 1L : 1L << (x.w - n));
                CHECK.everyWay(x.operation(0x78), x.least(), n, 1L << (x.w - 1 - n));
                CHECK.everyWay(x.operation(0x77), x.greatestUnsigned(), n, x.greatestUnsigned());
                CHECK.everyWay(x.operation(0x78), x.greatestUnsigned(), n, x.greatestUnsigned());
            }
        }
        CHECK.everyWay(0x77, 0x12345678L, 8L, 0x34567812L);
        CHECK.everyWay(0x78, 0x12345678L, 8L, 0x78123456L);
        CHECK.everyWay(0x89, 0x123456789abcdef0L, 8L, 0x3456789abcdef012L);
        CHECK.everyWay(0x8a, 0x123456789abcdef0L, 8L, 0xf0123456789abcdeL);
    }
}
