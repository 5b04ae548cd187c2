/** The boundary cases of 5b .. 66 and 8b .. a6, each in a test whose name tells the document's sentence. */
public final class FloatEdgesTest {
    private static final Check CHECK = new Check();

    private static final int NOT_BELOW = 0x8d;
    private static final int NOT_ABOVE = 0x8e;
    private static final int TOWARDS_0 = 0x8f;
    private static final int NEAREST = 0x90;
    private static final int[] STEPS = {NOT_BELOW, NOT_ABOVE, TOWARDS_0, NEAREST};
    private static final int ROOT = 0x91;
    private static final int SUM = 0x92;
    private static final int DIFFERENCE = 0x93;
    private static final int PRODUCT = 0x94;
    private static final int QUOTIENT = 0x95;
    private static final int LESSER = 0x96;
    private static final int GREATER = 0x97;

    public static void main(String[] args) throws ReflectiveOperationException {
        CHECK.sentences(FloatEdgesTest.class);
    }

    static void ifOneIsNoNumber0But1ForANotB() {
        for (Width x : Width.BOTH) {
            for (long a : x.noNumbers()) {
                for (int i = 0; i < 6; i++) {
                    long due = i == 1 ? 1 : 0;
                    CHECK.everyWay(x.operation(0x5b + i), a, a, due);
                    for (long b : x.others()) {
                        CHECK.everyWay(x.operation(0x5b + i), a, b, due);
                        CHECK.everyWay(x.operation(0x5b + i), b, a, due);
                    }
                }
            }
        }
    }

    static void comparedByTheirNumbers() {
        for (Width x : Width.BOTH) {
            long[] rising = {x.minus(x.infinite()), x.minus(x.greatest()), x.minus(x.one() + 1L), x.minus(x.one()),
                x.minus(x.smallestWithExponent1()), x.minus(x.greatestWithExponent0()), x.minus(x.smallest()), 0L,
                x.smallest(), x.greatestWithExponent0(), x.smallestWithExponent1(), x.one(), x.one() + 1L, x.greatest(),
                x.infinite()};
            for (int i = 0; i < rising.length; i++) {
                for (int j = 0; j < rising.length; j++) {
                    String due = i == j ? "100011" : i < j ? "011010" : "010101";
                    for (int k = 0; k < 6; k++) {
                        CHECK.everyWay(x.operation(0x5b + k), rising[i], rising[j], due.charAt(k) - '0');
                    }
                }
            }
        }
    }

    static void withoutItsSignAndWithTheOtherSignByBitsAlone() {
        for (Width x : Width.BOTH) {
            for (long[] row : new long[][] {x.noNumbers(), x.others()}) {
                for (long a : row) {
                    CHECK.everyWayAlone(x.operation(0x8b), a, a & ~x.least());
                    CHECK.everyWayAlone(x.operation(0x8c), a, a ^ x.least());
                }
            }
        }
    }

    static void withTheSignOfBByBitsAlone() {
        for (Width x : Width.BOTH) {
            for (long[] row : new long[][] {x.noNumbers(), x.others()}) {
                for (long a : row) {
                    for (long b : new long[] {0L, x.one(), x.infinite(), x.noNumber(), x.infinite() | 1L}) {
                        CHECK.everyWay(x.operation(0x98), a, b, a & ~x.least());
                        CHECK.everyWay(x.operation(0x98), a, x.minus(b), a | x.least());
                    }
                }
            }
        }
    }

    static void zerosAreThemselves() {
        for (Width x : Width.BOTH) {
            for (int step : STEPS) {
                step(x, step, 0L, 0L);
                step(x, step, x.minus(0L), x.minus(0L));
            }
        }
    }

    static void infiniteOnesAreThemselves() {
        for (Width x : Width.BOTH) {
            for (int step : STEPS) {
                step(x, step, x.infinite(), x.infinite());
                step(x, step, x.minus(x.infinite()), x.minus(x.infinite()));
            }
        }
    }

    static void wholeOnesAreThemselves() {
        for (Width x : Width.BOTH) {
            // From 2 to the F on all are whole; below it this one is the last.
            long lastBelow = x.power(x.f) - 2L;
            long[] wholes = {x.one(), x.power(1), x.power(1) | 1L << (x.f - 1), lastBelow, x.power(x.f), x.power(x.f) + 1L,
                x.power(x.f + 1) - 1L, x.power(x.f + 1) + 1L, x.power(63) + 1L, x.power(x.b), x.greatest()};
            for (long a : wholes) {
                for (int step : STEPS) {
                    step(x, step, a, a);
                    step(x, step, x.minus(a), x.minus(a));
                }
            }
        }
    }

    static void theSignStaysAlsoWhenItBecomesAZero() {
        for (Width x : Width.BOTH) {
            long[] belowHalf = {x.smallest(), x.greatestWithExponent0(), x.smallestWithExponent1(), x.half() - 1L, x.half()};
            for (long a : belowHalf) {
                step(x, NEAREST, a, 0L);
                step(x, NEAREST, x.minus(a), x.minus(0L));
            }
            long[] belowOne = {x.smallest(), x.greatestWithExponent0(), x.smallestWithExponent1(), x.half(), x.half() + 1L,
                x.one() - 1L};
            for (long a : belowOne) {
                step(x, NOT_ABOVE, a, 0L);
                step(x, NOT_BELOW, x.minus(a), x.minus(0L));
                step(x, TOWARDS_0, a, 0L);
                step(x, TOWARDS_0, x.minus(a), x.minus(0L));
            }
        }
    }

    static void theWholeNumberNextToANotBelowIt() {
        for (Width x : Width.BOTH) {
            step(x, NOT_BELOW, x.smallest(), x.one());
            step(x, NOT_BELOW, x.one() - 1L, x.one());
            step(x, NOT_BELOW, x.one() + 1L, x.power(1));
            step(x, NOT_BELOW, x.power(1) - 1L, x.power(1));
            step(x, NOT_BELOW, x.minus(x.one() + 1L), x.minus(x.one()));
            step(x, NOT_BELOW, x.minus(x.power(1) - 1L), x.minus(x.one()));
            step(x, NOT_BELOW, x.power(x.f) - 1L, x.power(x.f));
            step(x, NOT_BELOW, x.minus(x.power(x.f) - 1L), x.minus(x.power(x.f) - 2L));
        }
    }

    static void theWholeNumberNextToANotAboveIt() {
        for (Width x : Width.BOTH) {
            step(x, NOT_ABOVE, x.minus(x.smallest()), x.minus(x.one()));
            step(x, NOT_ABOVE, x.minus(x.one() - 1L), x.minus(x.one()));
            step(x, NOT_ABOVE, x.minus(x.one() + 1L), x.minus(x.power(1)));
            step(x, NOT_ABOVE, x.minus(x.power(1) - 1L), x.minus(x.power(1)));
            step(x, NOT_ABOVE, x.one() + 1L, x.one());
            step(x, NOT_ABOVE, x.power(1) - 1L, x.one());
            step(x, NOT_ABOVE, x.minus(x.power(x.f) - 1L), x.minus(x.power(x.f)));
            step(x, NOT_ABOVE, x.power(x.f) - 1L, x.power(x.f) - 2L);
        }
    }

    static void theWholeNumberNextToATowards0() {
        for (Width x : Width.BOTH) {
            long[] from = {x.one() + 1L, x.power(1) - 1L, x.power(1) + 1L, x.power(x.f) - 1L};
            long[] due = {x.one(), x.one(), x.power(1), x.power(x.f) - 2L};
            for (int i = 0; i < from.length; i++) {
                step(x, TOWARDS_0, from[i], due[i]);
                step(x, TOWARDS_0, x.minus(from[i]), x.minus(due[i]));
            }
        }
    }

    static void theWholeNumberNearestToAOfTwoTheEvenOne() {
        for (Width x : Width.BOTH) {
            long two = x.power(1);
            long twoAndAHalf = two | 1L << (x.f - 2);
            long three = two | 1L << (x.f - 1);
            long threeAndAHalf = three | 1L << (x.f - 2);
            long four = x.power(2);
            long[][] rows = {
                {x.half(), 0L}, {x.half() + 1L, x.one()}, {x.one() - 1L, x.one()},
                {x.oneAndAHalf() - 1L, x.one()}, {x.oneAndAHalf(), two}, {x.oneAndAHalf() + 1L, two},
                {twoAndAHalf - 1L, two}, {twoAndAHalf, two}, {twoAndAHalf + 1L, three},
                {threeAndAHalf - 1L, three}, {threeAndAHalf, four}, {threeAndAHalf + 1L, four},
                // The last halves there are: below 2 to the F.
                {x.power(x.f) - 1L, x.power(x.f)}, {x.power(x.f) - 3L, x.power(x.f) - 4L},
                {x.power(x.f - 1) + 1L, x.power(x.f - 1)}, {x.power(x.f - 1) + 3L, x.power(x.f - 1) + 4L},
                {x.power(x.f - 1) - 1L, x.power(x.f - 1)}, {x.power(x.f - 1) - 2L, x.power(x.f - 1)},
                {x.power(x.f - 1) - 3L, x.power(x.f - 1) - 4L}, {x.power(x.f - 1) - 6L, x.power(x.f - 1) - 8L}
            };
            for (long[] row : rows) {
                step(x, NEAREST, row[0], row[1]);
                step(x, NEAREST, x.minus(row[0]), x.minus(row[1]));
            }
        }
    }

    private static void step(Width x, int operation, long a, long due) {
        CHECK.everyWayAlone(x.operation(operation), a, due);
    }

    static void theRootOfMinus0IsItself() {
        for (Width x : Width.BOTH) {
            step(x, ROOT, x.minus(0L), x.minus(0L));
            step(x, ROOT, 0L, 0L);
        }
    }

    static void theRootOfAnyOtherOneBelow0IsNoNumber() {
        for (Width x : Width.BOTH) {
            long[] amounts = {x.smallest(), x.greatestWithExponent0(), x.smallestWithExponent1(), x.half(), x.one(),
                x.power(2), x.greatest(), x.infinite()};
            for (long a : amounts) {
                step(x, ROOT, x.minus(a), x.noNumber());
            }
        }
    }

    static void theRootIsRounded() {
        for (Width x : Width.BOTH) {
            step(x, ROOT, x.infinite(), x.infinite());
            step(x, ROOT, x.one(), x.one());
            step(x, ROOT, x.power(2), x.power(1));
            step(x, ROOT, x.one() - 1L, x.one() - 1L);
            step(x, ROOT, x.one() + 1L, x.one());
            step(x, ROOT, x.one() + 2L, x.one() + 1L);
            step(x, ROOT, x.one() + 3L, x.one() + 1L);
            step(x, ROOT, x.power(2) - 1L, x.power(1) - 1L);
            step(x, ROOT, x.power(-x.b + 1), x.power((-x.b + 1) / 2));
        }
        step(Width.OF_32, ROOT, 1L, 0x1a3504f3L);
        step(Width.OF_32, ROOT, 0x7f7fffffL, 0x5f7fffffL);
        step(Width.OF_64, ROOT, 1L, 0x1e60000000000000L);
        step(Width.OF_64, ROOT, 0x7fefffffffffffffL, 0x5fefffffffffffffL);
    }

    static void theLesserAndTheGreaterMinus0IsBelowPlus0() {
        for (Width x : Width.BOTH) {
            long minus0 = x.minus(0L);
            two(x, LESSER, 0L, minus0, minus0);
            two(x, LESSER, minus0, 0L, minus0);
            two(x, LESSER, 0L, 0L, 0L);
            two(x, LESSER, minus0, minus0, minus0);
            two(x, GREATER, 0L, minus0, 0L);
            two(x, GREATER, minus0, 0L, 0L);
            two(x, GREATER, 0L, 0L, 0L);
            two(x, GREATER, minus0, minus0, minus0);
            long[] zeros = {0L, minus0};
            for (long zero : zeros) {
                inOrder(x, zero, x.smallest());
                inOrder(x, x.minus(x.smallest()), zero);
            }
        }
    }

    static void theLesserAndTheGreaterOfNumbersAndInfiniteOnes() {
        for (Width x : Width.BOTH) {
            inOrder(x, x.one(), x.one() + 1L);
            inOrder(x, x.minus(x.one() + 1L), x.minus(x.one()));
            inOrder(x, x.minus(x.one()), x.smallest());
            inOrder(x, x.greatest(), x.infinite());
            inOrder(x, x.minus(x.infinite()), x.minus(x.greatest()));
            inOrder(x, x.minus(x.infinite()), x.infinite());
        }
    }

    private static void inOrder(Width x, long lesser, long greater) {
        two(x, LESSER, lesser, greater, lesser);
        two(x, LESSER, greater, lesser, lesser);
        two(x, GREATER, lesser, greater, greater);
        two(x, GREATER, greater, lesser, greater);
    }

    static void anExactSum0IsMinus0IfBothAreMinus0ElsePlus0() {
        for (Width x : Width.BOTH) {
            long minus0 = x.minus(0L);
            two(x, SUM, minus0, minus0, minus0);
            two(x, SUM, minus0, 0L, 0L);
            two(x, SUM, 0L, minus0, 0L);
            two(x, SUM, 0L, 0L, 0L);
            for (long a : finiteAmounts(x)) {
                two(x, SUM, a, x.minus(a), 0L);
                two(x, SUM, x.minus(a), a, 0L);
            }
        }
    }

    static void anExactDifference0IsMinus0IfAAndBWithTheOtherSignAreMinus0ElsePlus0() {
        for (Width x : Width.BOTH) {
            long minus0 = x.minus(0L);
            two(x, DIFFERENCE, minus0, 0L, minus0);
            two(x, DIFFERENCE, minus0, minus0, 0L);
            two(x, DIFFERENCE, 0L, minus0, 0L);
            two(x, DIFFERENCE, 0L, 0L, 0L);
            for (long a : finiteAmounts(x)) {
                two(x, DIFFERENCE, a, a, 0L);
                two(x, DIFFERENCE, x.minus(a), x.minus(a), 0L);
            }
        }
    }

    static void aSumOrDifferenceOfANumberAndAZeroIsTheNumber() {
        for (Width x : Width.BOTH) {
            for (long a : finiteAmounts(x)) {
                for (long zero : new long[] {0L, x.minus(0L)}) {
                    two(x, SUM, a, zero, a);
                    two(x, SUM, zero, x.minus(a), x.minus(a));
                    two(x, DIFFERENCE, x.minus(a), zero, x.minus(a));
                    two(x, DIFFERENCE, zero, a, x.minus(a));
                }
            }
        }
    }

    static void productsAndQuotientsHaveTheSign1WhenJustOneOfBothHas() {
        for (Width x : Width.BOTH) {
            for (long a : new long[] {x.one(), x.oneAndAHalf(), x.greatest(), x.smallest()}) {
                fourSigns(x, PRODUCT, a, x.one(), a);
                fourSigns(x, PRODUCT, x.one(), a, a);
                fourSigns(x, QUOTIENT, a, x.one(), a);
                fourSigns(x, QUOTIENT, a, a, x.one());
                fourSigns(x, PRODUCT, 0L, a, 0L);
                fourSigns(x, PRODUCT, a, 0L, 0L);
                fourSigns(x, QUOTIENT, 0L, a, 0L);
            }
            fourSigns(x, PRODUCT, 0L, 0L, 0L);
        }
    }

    static void infiniteOnesPlusAndMinusOfTheSameSumAreNoNumber() {
        for (Width x : Width.BOTH) {
            long plus = x.infinite();
            long minus = x.minus(plus);
            two(x, SUM, plus, minus, x.noNumber());
            two(x, SUM, minus, plus, x.noNumber());
            two(x, DIFFERENCE, plus, plus, x.noNumber());
            two(x, DIFFERENCE, minus, minus, x.noNumber());
            two(x, SUM, plus, plus, plus);
            two(x, SUM, minus, minus, minus);
            two(x, DIFFERENCE, plus, minus, plus);
            two(x, DIFFERENCE, minus, plus, minus);
        }
    }

    static void infiniteOnesTimes0AreNoNumber() {
        for (Width x : Width.BOTH) {
            for (long infinite : new long[] {x.infinite(), x.minus(x.infinite())}) {
                for (long zero : new long[] {0L, x.minus(0L)}) {
                    two(x, PRODUCT, infinite, zero, x.noNumber());
                    two(x, PRODUCT, zero, infinite, x.noNumber());
                }
            }
        }
    }

    static void infiniteOnesByEachOtherAreNoNumber() {
        for (Width x : Width.BOTH) {
            for (long a : new long[] {x.infinite(), x.minus(x.infinite())}) {
                for (long b : new long[] {x.infinite(), x.minus(x.infinite())}) {
                    two(x, QUOTIENT, a, b, x.noNumber());
                }
            }
        }
    }

    static void elseTheSumIsTheInfiniteOne() {
        for (Width x : Width.BOTH) {
            long plus = x.infinite();
            long minus = x.minus(plus);
            for (long amount : finiteAmountsAnd0(x)) {
                for (long a : new long[] {amount, x.minus(amount)}) {
                    two(x, SUM, plus, a, plus);
                    two(x, SUM, a, plus, plus);
                    two(x, SUM, minus, a, minus);
                    two(x, SUM, a, minus, minus);
                    two(x, DIFFERENCE, plus, a, plus);
                    two(x, DIFFERENCE, a, plus, minus);
                    two(x, DIFFERENCE, minus, a, minus);
                    two(x, DIFFERENCE, a, minus, plus);
                }
            }
        }
    }

    static void elseAProductOfAnInfiniteOneIsInfinite() {
        for (Width x : Width.BOTH) {
            for (long a : finiteAmounts(x)) {
                fourSigns(x, PRODUCT, x.infinite(), a, x.infinite());
                fourSigns(x, PRODUCT, a, x.infinite(), x.infinite());
            }
            fourSigns(x, PRODUCT, x.infinite(), x.infinite(), x.infinite());
        }
    }

    static void aNumberByAnInfiniteOneIsAZero() {
        for (Width x : Width.BOTH) {
            for (long a : finiteAmountsAnd0(x)) {
                fourSigns(x, QUOTIENT, a, x.infinite(), 0L);
            }
        }
    }

    static void anInfiniteOneByANumberIsInfinite() {
        for (Width x : Width.BOTH) {
            for (long a : finiteAmountsAnd0(x)) {
                fourSigns(x, QUOTIENT, x.infinite(), a, x.infinite());
            }
        }
    }

    static void byAZeroNoNumberForAZero() {
        for (Width x : Width.BOTH) {
            for (long a : new long[] {0L, x.minus(0L)}) {
                for (long b : new long[] {0L, x.minus(0L)}) {
                    two(x, QUOTIENT, a, b, x.noNumber());
                }
            }
        }
    }

    static void byAZeroInfiniteForOthers() {
        for (Width x : Width.BOTH) {
            for (long a : finiteAmounts(x)) {
                fourSigns(x, QUOTIENT, a, 0L, x.infinite());
            }
            fourSigns(x, QUOTIENT, x.infinite(), 0L, x.infinite());
        }
    }

    private static long[] finiteAmounts(Width x) {
        return new long[] {x.smallest(), x.greatestWithExponent0(), x.smallestWithExponent1(), x.half(), x.one() - 1L,
            x.one(), x.oneAndAHalf(), x.power(x.f), x.greatest()};
    }

    private static long[] finiteAmountsAnd0(Width x) {
        long[] amounts = finiteAmounts(x);
        long[] all = new long[amounts.length + 1];
        System.arraycopy(amounts, 0, all, 1, amounts.length);
        return all;
    }

    private static void two(Width x, int operation, long a, long b, long due) {
        CHECK.everyWay(x.operation(operation), a, b, due);
    }

    /** The answer has the sign 1 when just one of both has. */
    private static void fourSigns(Width x, int operation, long a, long b, long due) {
        two(x, operation, a, b, due);
        two(x, operation, x.minus(a), b, x.minus(due));
        two(x, operation, a, x.minus(b), x.minus(due));
        two(x, operation, x.minus(a), x.minus(b), due);
    }
}
