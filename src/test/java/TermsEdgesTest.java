/** The boundary cases that the document's Terms name, each in a test whose name tells the sentence. */
public final class TermsEdgesTest {
    private static final Check CHECK = new Check();

    public static void main(String[] args) throws ReflectiveOperationException {
        CHECK.sentences(TermsEdgesTest.class);
    }

    static void aboveTheLowest32BitsIsNotLookedAt_byRows() {
        CHECK.everyWayAlone(0x45, 0x1_0000_0000L, 1);
        CHECK.everyWay(0x46, 0xffffffff_00000005L, 5L, 1);
        CHECK.everyWay(0x48, 0x00000001_00000000L, 1L, 1);
        CHECK.everyWay(0x49, 1L, 0x80000000_00000000L, 0);
        CHECK.everyWay(0x5b, 0x12345678_3f800000L, 0x3f800000L, 1);
        CHECK.everyWayAlone(0x67, 0x80000000_00000001L, 31);
        CHECK.everyWayAlone(0x68, 0x00000001_00000000L, 32);
        CHECK.everyWayAlone(0x69, 0xffffffff_00000000L, 0);
        CHECK.everyWay(0x6e, 0x00000001_00000006L, 0xffffffff_00000003L, 2);
        CHECK.everyWay(0x6d, 6L, 0xffffffff_00000000L, Check.DIVISION);
        CHECK.everyWay(0x6d, 0x80000000L, -1L, Check.OVERFLOW);
        CHECK.everyWay(0x6d, 0xffffffff_80000000L, 0xffffffffL, Check.OVERFLOW);
        CHECK.everyWay(0x76, 0xffffffff_80000000L, 1L, 0x40000000L);
        CHECK.everyWay(0x77, 0x00000001_80000000L, 1L, 1);
        CHECK.everyWayAlone(0x8b, 0x80000000_3f800000L, 0x3f800000L);
        CHECK.everyWay(0x92, 0x7ff80000_3f800000L, 0xffffffff_3f800000L, 0x40000000L);
        CHECK.everyWayAlone(0xa8, 0x7fc00000_3f800000L, 1);
        CHECK.everyWayAlone(0xac, 0x80000000_7fffffffL, 0x7fffffffL);
        CHECK.everyWayAlone(0xad, 0xffffffff_80000000L, 0x80000000L);
        CHECK.everyWayAlone(0xb3, 0xffffffff_00000001L, 0x3f800000L);
        CHECK.everyWayAlone(0xbb, 0x7ff80000_00000000L, 0);
        CHECK.everyWayAlone(0xbc, 0xffffffff_12345678L, 0x12345678L);
        CHECK.everyWayAlone(0xbe, 0xffffffff_12345678L, 0x12345678L);
    }

    static void aboveTheLowest32BitsIsNotLookedAt_inAnyOperation() {
        long[] low = {0L, 1L, 0x7fffffffL, 0x80000000L, 0xffffffffL, 0x3f800000L, 0xbfc00000L, 0x7f800000L, 0xff800001L};
        long[] above = {0x00000001_00000000L, 0x80000000_00000000L, 0x7ff80000_00000000L, 0xffffffff_00000000L};
        for (int operation : ofValuesOf32Bits()) {
            for (long a : low) {
                for (long b : low) {
                    String due = Check.run(operation, a, b);
                    for (long more : above) {
                        CHECK.due(operation, a | more, b, due);
                        CHECK.due(operation, a, b | more, due);
                        CHECK.due(operation, a | more, b | more, due);
                    }
                }
            }
        }
    }

    private static int[] ofValuesOf32Bits() {
        int[][] ranges = {{0x45, 0x4f}, {0x5b, 0x60}, {0x67, 0x78}, {0x8b, 0x98}, {0xa8, 0xa9}, {0xac, 0xaf}, {0xb2, 0xb3},
            {0xb7, 0xb8}, {0xbb, 0xbc}, {0xbe, 0xbe}};
        int[] all = new int[11 + 6 + 18 + 14 + 2 + 4 + 2 + 2 + 2 + 1];
        int count = 0;
        for (int[] range : ranges) {
            for (int operation = range[0]; operation <= range[1]; operation++) {
                all[count++] = operation;
            }
        }
        return all;
    }

    static void aboveTheLowest32BitsIs0InAnswers_ofWholeNumbers() {
        CHECK.everyWay(0x6a, 0x7fffffffL, 1L, 0x80000000L);
        CHECK.everyWay(0x6a, -1L, -1L, 0xfffffffeL);
        CHECK.everyWay(0x6b, 0L, 1L, 0xffffffffL);
        CHECK.everyWay(0x6c, -1L, 1L, 0xffffffffL);
        CHECK.everyWay(0x6d, -1L, 1L, 0xffffffffL);
        CHECK.everyWay(0x6d, 0x80000000L, 1L, 0x80000000L);
        CHECK.everyWay(0x6e, -1L, 1L, 0xffffffffL);
        CHECK.everyWay(0x6f, -1L, 2L, 0xffffffffL);
        CHECK.everyWay(0x70, -2L, -1L, 0xfffffffeL);
        CHECK.everyWay(0x71, -1L, -1L, 0xffffffffL);
        CHECK.everyWay(0x72, -1L, 0L, 0xffffffffL);
        CHECK.everyWay(0x73, -1L, 0L, 0xffffffffL);
        CHECK.everyWay(0x74, -1L, 1L, 0xfffffffeL);
        CHECK.everyWay(0x75, 0x80000000L, 31L, 0xffffffffL);
        CHECK.everyWay(0x76, -1L, 0L, 0xffffffffL);
        CHECK.everyWay(0x77, 0x40000000L, 1L, 0x80000000L);
        CHECK.everyWay(0x78, 1L, 1L, 0x80000000L);
        CHECK.everyWayAlone(0xa7, -1L, 0xffffffffL);
        CHECK.everyWayAlone(0xa8, 0xbf800000L, 0xffffffffL);
        CHECK.everyWayAlone(0xa9, 0x4f7fffffL, 0xffffff00L);
        CHECK.everyWayAlone(0xaa, 0xbff0000000000000L, 0xffffffffL);
        CHECK.everyWayAlone(0xab, 0x41efffffffe00000L, 0xffffffffL);
        CHECK.everyWayAlone(0xbc, -1L, 0xffffffffL);
    }

    static void aboveTheLowest32BitsIs0InAnswers_ofFloats() {
        CHECK.everyWayAlone(0x8b, -1L, 0x7fffffffL);
        CHECK.everyWayAlone(0x8c, 0x3f800000L, 0xbf800000L);
        CHECK.everyWayAlone(0x8d, 0xbf800000L, 0xbf800000L);
        CHECK.everyWayAlone(0x8e, 0xbf000000L, 0xbf800000L);
        CHECK.everyWayAlone(0x8f, 0xbf000000L, 0x80000000L);
        CHECK.everyWayAlone(0x90, 0xbf400000L, 0xbf800000L);
        CHECK.everyWayAlone(0x91, 0x80000000L, 0x80000000L);
        CHECK.everyWay(0x92, 0xbf800000L, 0xbf800000L, 0xc0000000L);
        CHECK.everyWay(0x93, 0xbf800000L, 0x3f800000L, 0xc0000000L);
        CHECK.everyWay(0x94, 0xbf800000L, 0x3f800000L, 0xbf800000L);
        CHECK.everyWay(0x95, 0xbf800000L, 0x3f800000L, 0xbf800000L);
        CHECK.everyWay(0x96, 0xbf800000L, 0x3f800000L, 0xbf800000L);
        CHECK.everyWay(0x97, 0xbf800000L, 0xc0000000L, 0xbf800000L);
        CHECK.everyWay(0x98, 0x3f800000L, 0x80000000L, 0xbf800000L);
        CHECK.everyWayAlone(0xb2, -1L, 0xbf800000L);
        CHECK.everyWayAlone(0xb4, -1L, 0xbf800000L);
        CHECK.everyWayAlone(0xb6, 0xbff0000000000000L, 0xbf800000L);
        CHECK.everyWayAlone(0xbe, -1L, 0xffffffffL);
    }

    static void aWholeAnswerThatIsNoSuchNumberIsMeantModulo2ToTheW() {
        for (Width x : Width.BOTH) {
            long least = x.least();
            long most = x.greatestUnsigned();
            CHECK.everyWay(x.operation(0x6a), most - 1L, 1L, most);
            CHECK.everyWay(x.operation(0x6a), most, 1L, 0);
            CHECK.everyWay(x.operation(0x6a), most, most, most - 1L);
            CHECK.everyWay(x.operation(0x6a), x.greatestSigned(), 1L, least);
            CHECK.everyWay(x.operation(0x6a), least, least, 0);
            CHECK.everyWay(x.operation(0x6b), 1L, 1L, 0);
            CHECK.everyWay(x.operation(0x6b), 0L, 1L, most);
            CHECK.everyWay(x.operation(0x6b), least, 1L, x.greatestSigned());
            CHECK.everyWay(x.operation(0x6b), 0L, least, least);
            long root = 1L << x.w / 2;
            CHECK.everyWay(x.operation(0x6c), root - 1L, root + 1L, most);
            CHECK.everyWay(x.operation(0x6c), root, root, 0);
            CHECK.everyWay(x.operation(0x6c), root + 1L, root, root);
            CHECK.everyWay(x.operation(0x6c), most, most, 1);
            CHECK.everyWay(x.operation(0x6c), least, most, least);
            CHECK.everyWay(x.operation(0x6c), least, 2L, 0);
        }
    }

    static void theSignedAndTheUnsignedRangeEndWhereTheyAreToldTo() {
        for (Width x : Width.BOTH) {
            boolean[] signed = {false, true, true, false, true, false};
            long[][] pairs = {{x.greatestSigned(), x.least()}, {x.least(), x.greatestSigned()}, {x.greatestUnsigned(), 0L},
                {0L, x.greatestUnsigned()}, {x.least(), x.greatestUnsigned()}, {x.greatestUnsigned(), x.least()}};
            boolean[] unsigned = {true, false, false, true, true, false};
            for (int i = 0; i < pairs.length; i++) {
                long a = pairs[i][0];
                long b = pairs[i][1];
                CHECK.everyWay(x.operation(0x48), a, b, signed[i] ? 1 : 0);
                CHECK.everyWay(x.operation(0x4a), a, b, signed[i] ? 0 : 1);
                CHECK.everyWay(x.operation(0x4c), a, b, signed[i] ? 1 : 0);
                CHECK.everyWay(x.operation(0x4e), a, b, signed[i] ? 0 : 1);
                CHECK.everyWay(x.operation(0x49), a, b, unsigned[i] ? 1 : 0);
                CHECK.everyWay(x.operation(0x4b), a, b, unsigned[i] ? 0 : 1);
                CHECK.everyWay(x.operation(0x4d), a, b, unsigned[i] ? 1 : 0);
                CHECK.everyWay(x.operation(0x4f), a, b, unsigned[i] ? 0 : 1);
            }
        }
    }

    static void theTwoZerosAreTheSameNumber() {
        for (Width x : Width.BOTH) {
            long[] zeros = {0L, x.minus(0L)};
            for (long a : zeros) {
                for (long b : zeros) {
                    compared(x, a, b, "100011");
                }
                compared(x, a, x.smallest(), "011010");
                compared(x, a, x.minus(x.smallest()), "010101");
            }
        }
    }

    static void infiniteIsBeyondAllNumbers() {
        for (Width x : Width.BOTH) {
            long plus = x.infinite();
            long minus = x.minus(plus);
            compared(x, plus, plus, "100011");
            compared(x, minus, minus, "100011");
            compared(x, plus, x.greatest(), "010101");
            compared(x, x.greatest(), plus, "011010");
            compared(x, minus, x.minus(x.greatest()), "011010");
            compared(x, x.minus(x.greatest()), minus, "010101");
            compared(x, minus, plus, "011010");
            compared(x, plus, minus, "010101");
            CHECK.everyWay(x.operation(0x96), plus, x.greatest(), x.greatest());
            CHECK.everyWay(x.operation(0x97), plus, x.greatest(), plus);
            CHECK.everyWay(x.operation(0x96), x.minus(x.greatest()), minus, minus);
            CHECK.everyWay(x.operation(0x97), x.minus(x.greatest()), minus, x.minus(x.greatest()));
        }
    }

    static void anExponentOfAll1sIsNoNumberFromTheFraction1On() {
        for (Width x : Width.BOTH) {
            for (long a : x.noNumbers()) {
                compared(x, a, a, "010000");
            }
            compared(x, x.infinite(), x.infinite(), "100011");
            compared(x, x.infinite() - 1L, x.infinite() - 1L, "100011");
        }
    }

    /** The answers of 5b .. 60 or 61 .. 66. */
    private static void compared(Width x, long a, long b, String due) {
        for (int i = 0; i < 6; i++) {
            CHECK.everyWay(x.operation(0x5b + i), a, b, due.charAt(i) - '0');
        }
    }

    static void theOneNoNumberThatIsAnsweredHasTheSign0AndTheHighestBitAloneOfTheFraction() {
        CHECK.everyWay(0x95, 0L, 0L, 0x7fc00000L);
        CHECK.everyWay(0xa3, 0L, 0L, 0x7ff8000000000000L);
        CHECK.everyWay(0x95, 0x80000000L, 0L, 0x7fc00000L);
        CHECK.everyWay(0xa3, 0x8000000000000000L, 0L, 0x7ff8000000000000L);
        CHECK.everyWayAlone(0x91, 0xbf800000L, 0x7fc00000L);
        CHECK.everyWayAlone(0x9f, 0xbff0000000000000L, 0x7ff8000000000000L);
        CHECK.everyWay(0x92, 0xff800000L, 0x7f800000L, 0x7fc00000L);
        CHECK.everyWay(0xa0, 0xfff0000000000000L, 0x7ff0000000000000L, 0x7ff8000000000000L);
        CHECK.everyWayAlone(0xb6, -1L, 0x7fc00000L);
        CHECK.everyWayAlone(0xbb, 0xffffffffL, 0x7ff8000000000000L);
    }

    static void aFloatOperationNotToldByBitsAloneAnswersNoNumberIfOneOfItsValuesIsNoNumber() {
        for (Width x : Width.BOTH) {
            for (long a : x.noNumbers()) {
                for (int operation = 0x8d; operation <= 0x91; operation++) {
                    CHECK.everyWayAlone(x.operation(operation), a, x.noNumber());
                }
                for (int operation = 0x92; operation <= 0x97; operation++) {
                    for (long b : x.others()) {
                        CHECK.everyWay(x.operation(operation), a, b, x.noNumber());
                        CHECK.everyWay(x.operation(operation), b, a, x.noNumber());
                    }
                    for (long b : x.noNumbers()) {
                        CHECK.everyWay(x.operation(operation), a, b, x.noNumber());
                    }
                }
            }
        }
        for (long a : Width.OF_64.noNumbers()) {
            CHECK.everyWayAlone(0xb6, a, Width.OF_32.noNumber());
        }
        for (long a : Width.OF_32.noNumbers()) {
            CHECK.everyWayAlone(0xbb, a, Width.OF_64.noNumber());
        }
    }

    static void ofTwoAsNearTheOneWhoseLowestBitIs0_sumsAndDifferences() {
        for (Width x : Width.BOTH) {
            long one = x.one();
            long halfUnit = x.power(-x.f - 1);
            bothSigns(x, 0x92, one, halfUnit, one);
            bothSigns(x, 0x92, one, halfUnit + 1L, one + 1L);
            bothSigns(x, 0x92, one + 1L, halfUnit, one + 2L);
            bothSigns(x, 0x92, one + 1L, halfUnit - 1L, one + 1L);
            bothSigns(x, 0x92, one + 2L, halfUnit, one + 2L);
            bothSigns(x, 0x93, one + 1L, halfUnit, one);
            bothSigns(x, 0x93, one + 2L, halfUnit, one + 2L);
            bothSigns(x, 0x93, one + 2L, halfUnit + 1L, one + 1L);
            // Just below 1 the unit is half as great.
            long quarterUnit = x.power(-x.f - 2);
            bothSigns(x, 0x93, one, quarterUnit, one);
            bothSigns(x, 0x93, one, quarterUnit + 1L, one - 1L);
            bothSigns(x, 0x93, one - 1L, quarterUnit, one - 2L);
            // The float above the middle is the first of the next exponent.
            long two = x.power(1);
            bothSigns(x, 0x92, two - 1L, halfUnit, two);
            bothSigns(x, 0x92, two - 1L, halfUnit - 1L, two - 1L);
        }
    }

    static void ofTwoAsNearTheOneWhoseLowestBitIs0_productsAndQuotients() {
        for (Width x : Width.BOTH) {
            long one = x.one();
            bothSignsOfA(x, 0x94, one + 1L, x.oneAndAHalf(), x.oneAndAHalf() + 2L);
            bothSignsOfA(x, 0x94, one + 3L, x.oneAndAHalf(), x.oneAndAHalf() + 4L);
            // Among the least amounts a half is soon met.
            long[] halves = {0L, 0L, 1L, 2L, 2L, 2L, 3L, 4L, 4L, 4L, 5L, 6L};
            for (int i = 1; i < halves.length; i++) {
                bothSignsOfA(x, 0x94, i, x.half(), halves[i]);
                bothSignsOfA(x, 0x95, i, x.power(1), halves[i]);
            }
            bothSignsOfA(x, 0x94, 1L, x.half() - 1L, 0L);
            bothSignsOfA(x, 0x94, 1L, x.half() + 1L, 1L);
            bothSignsOfA(x, 0x95, 1L, x.power(1) - 1L, 1L);
            bothSignsOfA(x, 0x95, 1L, x.power(1) + 1L, 0L);
            // From the exponent 0 up to the exponent 1.
            bothSignsOfA(x, 0x94, x.smallestWithExponent1(), one - 1L, x.smallestWithExponent1());
            bothSignsOfA(x, 0x94, x.smallestWithExponent1(), one - 2L, x.greatestWithExponent0());
        }
    }

    static void ofTwoAsNearTheOneWhoseLowestBitIs0_wholeNumbersToFloats() {
        toFloat(new int[] {0xb2, 0xb3, 0xb4, 0xb5}, Width.OF_32, 1L << 24);
        toFloat(new int[] {0xb4, 0xb5}, Width.OF_32, 1L << 53);
        toFloat(new int[] {0xb9, 0xba}, Width.OF_64, 1L << 53);
        toFloat(new int[] {0xb9, 0xba}, Width.OF_64, 1L << 61);
        for (int operation : new int[] {0xb2, 0xb3, 0xb4, 0xb5}) {
            CHECK.everyWayAlone(operation, 0x1ffffffL, 0x4c000000L);
            CHECK.everyWayAlone(operation, 0x1fffffeL, 0x4bffffffL);
        }
        for (int operation : new int[] {0xb9, 0xba}) {
            CHECK.everyWayAlone(operation, 0x3fffffffffffffL, 0x4350000000000000L);
            CHECK.everyWayAlone(operation, 0x3ffffffffffffeL, 0x434fffffffffffffL);
        }
    }

    /** Numbers beside start, a power of 2 with floats so many units apart above it; s and u in turn. */
    private static void toFloat(int[] operations, Width to, long start) {
        int power = Long.numberOfTrailingZeros(start);
        long unit = start >> to.f;
        long bits = to.power(power);
        for (int i = 0; i < operations.length; i++) {
            int operation = operations[i];
            middle(operation, start + unit / 2L, bits, bits, bits + 1L, unit);
            middle(operation, start + unit + unit / 2L, bits + 2L, bits + 1L, bits + 2L, unit);
            middle(operation, start + 2L * unit + unit / 2L, bits + 2L, bits + 2L, bits + 3L, unit);
            if (i % 2 == 0) {
                CHECK.everyWayAlone(operation, -(start + unit / 2L), to.minus(bits));
                CHECK.everyWayAlone(operation, -(start + unit + unit / 2L), to.minus(bits + 2L));
            }
        }
    }

    private static void middle(int operation, long middle, long due, long below, long above, long unit) {
        CHECK.everyWayAlone(operation, middle, due);
        if (unit > 2L) {
            CHECK.everyWayAlone(operation, middle - 1L, below);
            CHECK.everyWayAlone(operation, middle + 1L, above);
        }
    }

    static void ofTwoAsNearTheOneWhoseLowestBitIs0_floatsOf64BitsTo32() {
        CHECK.everyWayAlone(0xb6, 0x3ff0000010000000L, 0x3f800000L);
        CHECK.everyWayAlone(0xb6, 0x3ff0000010000001L, 0x3f800001L);
        CHECK.everyWayAlone(0xb6, 0x3ff000002fffffffL, 0x3f800001L);
        CHECK.everyWayAlone(0xb6, 0x3ff0000030000000L, 0x3f800002L);
        CHECK.everyWayAlone(0xb6, 0xbff0000010000000L, 0xbf800000L);
        CHECK.everyWayAlone(0xb6, 0xbff0000030000000L, 0xbf800002L);
        CHECK.everyWayAlone(0xb6, 0x3ffffffff0000000L, 0x40000000L);
        CHECK.everyWayAlone(0xb6, 0x3fffffffefffffffL, 0x3fffffffL);
        // 1 and a half, 2 and a half, and 3 and a half of the least amount of 32 bits.
        CHECK.everyWayAlone(0xb6, Width.OF_64.power(-149) | 1L << 51, 2);
        CHECK.everyWayAlone(0xb6, Width.OF_64.power(-148) | 1L << 50, 2);
        CHECK.everyWayAlone(0xb6, Width.OF_64.power(-148) | 3L << 50, 4);
    }

    /** 2 to the n, and 1 and half a unit of that: the middle of two floats, and a little above and below it. */
    static void theFloatWhoseNumberIsNearestToIt_sumsBesideTheMiddle() {
        for (Width x : Width.BOTH) {
            for (int n = 1; n <= x.f; n++) {
                long half = 1L << (n - 1);
                long below = x.power(n) + (1L << (x.f - n));
                bothSigns(x, 0x92, x.power(n), x.one() + half, below + (below & 1L));
                for (long less = 1L; less < half; less <<= 1) {
                    bothSigns(x, 0x92, x.power(n), x.one() + half - less, below);
                    bothSigns(x, 0x92, x.power(n), x.one() + half + less, below + 1L);
                    bothSigns(x, 0x92, x.power(n), x.one() + half + (less | 1L), below + 1L);
                }
            }
        }
    }

    static void theFloatWhoseNumberIsNearestToIt_sumsWithLessThanHalfAUnit() {
        for (Width x : Width.BOTH) {
            for (int n = x.f + 2; n <= x.b + x.f - 1; n++) {
                bothSigns(x, 0x92, x.oneAndAHalf(), x.power(-n), x.oneAndAHalf());
                bothSigns(x, 0x93, x.oneAndAHalf(), x.power(-n), x.oneAndAHalf());
                bothSigns(x, 0x92, x.power(-n), x.oneAndAHalf(), x.oneAndAHalf());
            }
            bothSigns(x, 0x92, x.greatest(), x.smallest(), x.greatest());
            bothSigns(x, 0x93, x.greatest(), x.smallest(), x.greatest());
        }
    }

    /** With i + j = F + 1, the product of 1 + 2 to the -i and 1 + 2 to the -j is the middle of two floats. */
    static void theFloatWhoseNumberIsNearestToIt_productsBesideTheMiddle() {
        for (Width x : Width.BOTH) {
            for (int i = 1; i <= x.f; i++) {
                long a = x.one() + (1L << (x.f - i));
                long b = x.one() + (1L << (i - 1));
                long below = a + b - x.one();
                bothSignsOfA(x, 0x94, a, b, below + (below & 1L));
                // One bit more in a, and its last one too: as many units more, and a little above the middle.
                for (long more = 1L; more < 1L << (x.f - i - 1); more <<= 1) {
                    aboveTheMiddle(x, a + more, b, below + more);
                    aboveTheMiddle(x, a + (more | 1L), b, below + (more | 1L));
                }
            }
        }
    }

    private static void aboveTheMiddle(Width x, long a, long b, long below) {
        // From 2 on the unit is another one.
        if (below + 1L < x.power(1)) {
            bothSignsOfA(x, 0x94, a, b, below + 1L);
        }
    }

    static void atLeast2ToTheBPlus1Less2ToTheBLessFLess1IsInfinite() {
        for (Width x : Width.BOTH) {
            long halfUnit = x.power(x.b - x.f - 1);
            bothSigns(x, 0x92, x.greatest(), halfUnit, x.infinite());
            bothSigns(x, 0x92, x.greatest(), halfUnit - 1L, x.greatest());
            bothSigns(x, 0x92, x.greatest(), x.greatest(), x.infinite());
            bothSigns(x, 0x92, x.power(x.b), x.power(x.b), x.infinite());
            bothSigns(x, 0x92, x.power(x.b), x.power(x.b) - 1L, x.infinite());
            bothSigns(x, 0x92, x.power(x.b), x.power(x.b) - 2L, x.greatest());
            CHECK.everyWay(x.operation(0x93), x.greatest(), x.minus(halfUnit), x.infinite());
            CHECK.everyWay(x.operation(0x93), x.greatest(), x.minus(halfUnit - 1L), x.greatest());
            CHECK.everyWay(x.operation(0x93), x.minus(x.greatest()), halfUnit, x.minus(x.infinite()));
            CHECK.everyWay(x.operation(0x93), x.minus(x.greatest()), halfUnit - 1L, x.minus(x.greatest()));
            bothSignsOfA(x, 0x94, x.power(x.b), x.power(1), x.infinite());
            bothSignsOfA(x, 0x94, x.power(x.b), x.power(1) - 1L, x.greatest());
            bothSignsOfA(x, 0x94, x.greatest(), x.one() + 1L, x.infinite());
            bothSignsOfA(x, 0x94, x.greatest(), x.greatest(), x.infinite());
            bothSignsOfA(x, 0x95, x.power(x.b), x.half(), x.infinite());
            bothSignsOfA(x, 0x95, x.greatest(), x.one() - 1L, x.infinite());
            bothSignsOfA(x, 0x95, x.greatest() - 1L, x.one() - 1L, x.greatest());
            bothSignsOfA(x, 0x95, x.greatest(), x.smallest(), x.infinite());
        }
    }

    static void atLeast2ToTheBPlus1Less2ToTheBLessFLess1IsInfinite_productsAtThatVeryNumber() {
        // 31 times 1082401 is 2 to the 25, less 1; this is moved up to 2 to the 128, less 2 to the 103.
        bothSignsOfA(Width.OF_32, 0x94, 0x49842108L + (103L << 23), 0x41f80000L, 0x7f800000L);
        // 2 to the 27, less 1, times 2 to the 27, and 1, is 2 to the 54, less 1.
        bothSignsOfA(Width.OF_64, 0x94, 0x419ffffffc000000L + (970L << 52), 0x41a0000002000000L, 0x7ff0000000000000L);
    }

    /** With u for the unit at 1, 1 + k * u times 2 - 2 * k * u is 2, less twice the square of k * u. */
    static void atLeast2ToTheBPlus1Less2ToTheBLessFLess1IsInfinite_productsJustAboveAndBelowThatNumber() {
        justBeside(Width.OF_32, 1448L, Width.OF_32.infinite());
        justBeside(Width.OF_32, 1449L, Width.OF_32.greatest());
        justBeside(Width.OF_64, 1L << 25, Width.OF_64.infinite());
        justBeside(Width.OF_64, (1L << 25) + 1L, Width.OF_64.greatest());
    }

    private static void justBeside(Width x, long k, long due) {
        bothSignsOfA(x, 0x94, x.power(x.b) + k, x.power(1) - 2L * k, due);
    }

    static void atLeast2ToTheBPlus1Less2ToTheBLessFLess1IsInfinite_floatsOf64BitsTo32() {
        CHECK.everyWayAlone(0xb6, 0x47efffffefffffffL, 0x7f7fffffL);
        CHECK.everyWayAlone(0xb6, 0x47effffff0000000L, 0x7f800000L);
        CHECK.everyWayAlone(0xb6, 0xc7efffffefffffffL, 0xff7fffffL);
        CHECK.everyWayAlone(0xb6, 0xc7effffff0000000L, 0xff800000L);
        CHECK.everyWayAlone(0xb6, 0x47f0000000000000L, 0x7f800000L);
        CHECK.everyWayAlone(0xb6, 0x7fefffffffffffffL, 0x7f800000L);
        CHECK.everyWayAlone(0xb6, 0xffefffffffffffffL, 0xff800000L);
    }

    static void whenThatIsAZeroItHasTheSignOfTheExactNumber() {
        for (Width x : Width.BOTH) {
            long[] tiny = {x.smallest(), x.power(-x.b), x.smallestWithExponent1()};
            for (long a : tiny) {
                bothSignsOfA(x, 0x94, a, x.smallest(), 0L);
                bothSignsOfA(x, 0x94, a, x.smallestWithExponent1(), 0L);
                bothSignsOfA(x, 0x95, a, x.greatest(), 0L);
                CHECK.everyWay(x.operation(0x94), x.minus(a), x.minus(a), 0);
                CHECK.everyWay(x.operation(0x95), x.minus(a), x.minus(x.greatest()), 0);
            }
            bothSignsOfA(x, 0x94, x.smallest(), x.half(), 0L);
            bothSignsOfA(x, 0x94, x.smallest(), x.half() + 1L, x.smallest());
            bothSignsOfA(x, 0x95, x.smallest(), x.power(1), 0L);
            bothSignsOfA(x, 0x95, x.smallest(), x.power(1) - 1L, x.smallest());
        }
        CHECK.everyWayAlone(0xb6, Width.OF_64.power(-150), 0);
        CHECK.everyWayAlone(0xb6, Width.OF_64.power(-150) + 1L, 1);
        CHECK.everyWayAlone(0xb6, Width.OF_64.minus(Width.OF_64.power(-150)), 0x80000000L);
        CHECK.everyWayAlone(0xb6, Width.OF_64.minus(Width.OF_64.power(-150) + 1L), 0x80000001L);
        CHECK.everyWayAlone(0xb6, 1L, 0);
        CHECK.everyWayAlone(0xb6, 0x8000000000000001L, 0x80000000L);
        CHECK.everyWayAlone(0xb6, 0x0010000000000000L, 0);
        CHECK.everyWayAlone(0xb6, 0x8010000000000000L, 0x80000000L);
    }

    static void ifTheExponentIs0TheAmountIs2ToThe1LessBLessFTimesTheFraction() {
        for (Width x : Width.BOTH) {
            long least = x.smallest();
            long last = x.greatestWithExponent0();
            long first = x.smallestWithExponent1();
            compared(x, 0L, least, "011010");
            compared(x, last, first, "011010");
            compared(x, x.minus(last), x.minus(first), "010101");
            bothSigns(x, 0x92, least, least, 2L);
            bothSigns(x, 0x92, last, least, first);
            bothSigns(x, 0x92, last, last, x.number(1, (1L << x.f) - 2L));
            bothSigns(x, 0x93, first, least, last);
            bothSigns(x, 0x93, first, last, least);
            bothSigns(x, 0x93, first + 1L, first, least);
            bothSignsOfA(x, 0x94, first, x.half(), 1L << (x.f - 1));
            bothSignsOfA(x, 0x94, least, x.power(x.f), first);
            bothSignsOfA(x, 0x94, least, x.power(x.b), x.power(1 - x.f));
            bothSignsOfA(x, 0x95, least, least, x.one());
            bothSignsOfA(x, 0x95, last, least, x.power(x.f) - 2L);
            bothSignsOfA(x, 0x95, first, x.power(x.f), least);
            bothSignsOfA(x, 0x95, last, x.power(x.f - 1), 2L);
            // The least amount whose root is a power of 2: 2 to the -148 or -1074.
            CHECK.everyWayAlone(x.operation(0x91), x.w == 32 ? 2L : 1L, x.power(x.w == 32 ? -74 : -537));
            CHECK.everyWayAlone(x.operation(0x8d), least, x.one());
            CHECK.everyWayAlone(x.operation(0x8e), x.minus(last), x.minus(x.one()));
        }
        CHECK.everyWayAlone(0xbb, 1L, Width.OF_64.power(-149));
        CHECK.everyWayAlone(0xbb, 0x80000001L, Width.OF_64.minus(Width.OF_64.power(-149)));
        CHECK.everyWayAlone(0xbb, 3L, Width.OF_64.power(-148) | 1L << 51);
        CHECK.everyWayAlone(0xbb, 0x007fffffL, Width.OF_64.power(-126) - (1L << 30));
        CHECK.everyWayAlone(0xbb, 0x00800000L, Width.OF_64.power(-126));
        CHECK.everyWayAlone(0xb6, Width.OF_64.power(-149), 1);
        CHECK.everyWayAlone(0xb6, Width.OF_64.power(-126) - (1L << 30), 0x007fffffL);
        CHECK.everyWayAlone(0xb6, Width.OF_64.power(-126), 0x00800000L);
    }

    /** A sum or difference that is not 0 has the other sign when both values have. */
    private static void bothSigns(Width x, int operation, long a, long b, long due) {
        CHECK.everyWay(x.operation(operation), a, b, due);
        CHECK.everyWay(x.operation(operation), x.minus(a), x.minus(b), x.minus(due));
    }

    /** A product or quotient has the other sign when one of the values has. */
    private static void bothSignsOfA(Width x, int operation, long a, long b, long due) {
        CHECK.everyWay(x.operation(operation), a, b, due);
        CHECK.everyWay(x.operation(operation), x.minus(a), b, x.minus(due));
        CHECK.everyWay(x.operation(operation), a, x.minus(b), x.minus(due));
        CHECK.everyWay(x.operation(operation), x.minus(a), x.minus(b), due);
    }
}
