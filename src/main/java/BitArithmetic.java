/**
 * Reckons with whole and floating numbers of 32 and 64 bits, by their bits alone.
 *
 * Values are longs all the way, and no call makes an object, so that a run of calls needs no room.
 */
public final class BitArithmetic {
    public static final int NONE = -1;

    private long latest;

    public BitArithmetic() {
        latest = 0L;
    }

    public long run(int operation, long a, long b)
            throws IllegalArgumentException, ArithmeticException, IllegalStateException, UnsupportedOperationException {
        long answer = Operations.answer(operation, a, b);
        latest = answer;
        return answer;
    }

    public long next(int operation, long b)
            throws IllegalArgumentException, ArithmeticException, IllegalStateException, UnsupportedOperationException {
        long answer = Operations.answer(operation, latest, b);
        latest = answer;
        return answer;
    }

    public long into(int operation, long a)
            throws IllegalArgumentException, ArithmeticException, IllegalStateException, UnsupportedOperationException {
        long answer = Operations.answer(operation, a, latest);
        latest = answer;
        return answer;
    }

    public long latest() {
        return latest;
    }

    public int kind(int operation, int which) {
        if (!Operations.exists(operation)) {
            return NONE;
        }
        switch (which) {
            case 0: return Kinds.ofAnswer(operation);
            case 1: return Kinds.ofFirst(operation);
            case 2: return Kinds.ofSecond(operation);
            default: return NONE;
        }
    }

    /** What the numbers of operations mean. */
    private static final class Operations {
        static boolean exists(int operation) {
            return operation >= 0x45 && operation <= 0xbf;
        }

        /** Most operations of 64 bits are twins of one of 32: the same but for the width. */
        static boolean isTwin(int operation) {
            return operation >= 0x50 && operation <= 0x5a
                || operation >= 0x61 && operation <= 0x66
                || operation >= 0x79 && operation <= 0x8a
                || operation >= 0x99 && operation <= 0xa6;
        }

        /** The operation of 32 bits whose twin this one is, or else itself. */
        static int of32(int operation) {
            if (!isTwin(operation)) {
                return operation;
            }
            if (operation <= 0x5a) {
                return operation - (0x50 - 0x45);
            }
            if (operation <= 0x66) {
                return operation - (0x61 - 0x5b);
            }
            if (operation <= 0x8a) {
                return operation - (0x79 - 0x67);
            }
            return operation - (0x99 - 0x8b);
        }

        static long answer(int operation, long a, long b) {
            if (!exists(operation)) {
                throw new IllegalArgumentException("there is no such operation");
            }
            if (operation >= 0xb2 && operation <= 0xbb) {
                return Conversions.toFloat(operation, a);
            }
            if (operation >= 0xa7) {
                return Conversions.toWholeOrBits(operation, a);
            }
            int plain = of32(operation);
            int w = isTwin(operation) ? 64 : 32;
            if (plain <= 0x4f) {
                return Wholes.test(plain, Bits.signed(w, a), Bits.signed(w, b)) ? 1L : 0L;
            }
            if (plain >= 0x67 && plain <= 0x78) {
                return Wholes.calculate(plain, w, a, b);
            }
            Form form = w == 32 ? Form.OF_32 : Form.OF_64;
            if (plain <= 0x60) {
                return Floats.test(plain, form, Bits.lowest(w, a), Bits.lowest(w, b)) ? 1L : 0L;
            }
            return Floats.calculate(plain, form, Bits.lowest(w, a), Bits.lowest(w, b));
        }
    }

    /** The kinds of the values of an operation that exists. */
    private static final class Kinds {
        private static final int WHOLE_32 = 0;
        private static final int WHOLE_64 = 1;
        private static final int FLOAT_32 = 2;
        private static final int FLOAT_64 = 3;

        private static final int FIRST_CONVERSION = 0xa7;

        /** The lines are a7 .. ab, ac .. ad, ae .. b1, b2 .. b6, b7 .. bb, bc .. bf. */
        private static final int[] CONVERTED_FROM = {
            1, 2, 2, 3, 3,
            0, 0,
            2, 2, 3, 3,
            0, 0, 1, 1, 3,
            0, 0, 1, 1, 2,
            2, 3, 0, 1
        };
        private static final int[] CONVERTED_TO = {
            0, 0, 0, 0, 0,
            1, 1,
            1, 1, 1, 1,
            2, 2, 2, 2, 2,
            3, 3, 3, 3, 3,
            0, 1, 2, 3
        };

        static int ofAnswer(int operation) {
            if (operation >= FIRST_CONVERSION) {
                return entry(CONVERTED_TO, operation - FIRST_CONVERSION);
            }
            return operation <= 0x66 ? WHOLE_32 : ofFirst(operation);
        }

        static int ofFirst(int operation) {
            if (operation >= FIRST_CONVERSION) {
                return entry(CONVERTED_FROM, operation - FIRST_CONVERSION);
            }
            int plain = Operations.of32(operation);
            boolean wide = Operations.isTwin(operation);
            if (plain <= 0x4f || plain >= 0x67 && plain <= 0x78) {
                return wide ? WHOLE_64 : WHOLE_32;
            }
            return wide ? FLOAT_64 : FLOAT_32;
        }

        static int ofSecond(int operation) {
            return hasOneValue(operation) ? NONE : ofFirst(operation);
        }

        private static boolean hasOneValue(int operation) {
            int plain = Operations.of32(operation);
            return plain == 0x45
                || plain >= 0x67 && plain <= 0x69
                || plain >= 0x8b && plain <= 0x91
                || plain >= FIRST_CONVERSION;
        }

        private static int entry(int[] row, int index) {
            return index >= 0 && index < row.length ? row[index] : NONE;
        }
    }

    /** Rows of bits in a long. */
    private static final class Bits {
        static long lowest(int w, long a) {
            return w == 32 ? a & 0xffffffffL : a;
        }

        static long signed(int w, long a) {
            return w == 32 ? (long) (int) a : a;
        }

        /** Moves m down by n bits, and marks it if a 1 went out. */
        static long movedDown(long m, int n) {
            if (n <= 0) {
                return m;
            }
            if (n >= 64) {
                return marked(0L, m);
            }
            return marked(m >>> n, m << (64 - n));
        }

        /** A mark, the lowest bit 1, keeps for rounding that there is more below m than m tells. */
        static long marked(long m, long rest) {
            return rest == 0L ? m : m | 1L;
        }
    }

    /** Operations on whole numbers, by their numbers for 32 bits. */
    private static final class Wholes {
        /** The values are spread by their signs, which keeps the unsigned order of 32 bits too. */
        static boolean test(int plain, long a, long b) {
            switch (plain) {
                case 0x45: return a == 0L;
                case 0x46: return a == b;
                case 0x47: return a != b;
                case 0x48: return a < b;
                case 0x49: return Long.compareUnsigned(a, b) < 0;
                case 0x4a: return a > b;
                case 0x4b: return Long.compareUnsigned(a, b) > 0;
                case 0x4c: return a <= b;
                case 0x4d: return Long.compareUnsigned(a, b) <= 0;
                case 0x4e: return a >= b;
                default: return Long.compareUnsigned(a, b) >= 0; // 4f
            }
        }

        static long calculate(int plain, int w, long a, long b) {
            if (plain <= 0x69) {
                return counted(plain, w, Bits.lowest(w, a));
            }
            if (plain >= 0x6d && plain <= 0x70) {
                return Bits.lowest(w, divided(plain, w, a, b));
            }
            if (plain >= 0x74) {
                return Bits.lowest(w, moved(plain, w, a, (int) (b & (w - 1))));
            }
            return Bits.lowest(w, combined(plain, a, b));
        }

        private static long counted(int plain, int w, long a) {
            switch (plain) {
                case 0x67: return Long.numberOfLeadingZeros(a) - (64 - w);
                case 0x68: return a == 0L ? w : Long.numberOfTrailingZeros(a);
                default: return Long.bitCount(a); // 69
            }
        }

        private static long combined(int plain, long a, long b) {
            switch (plain) {
                case 0x6a: return a + b;
                case 0x6b: return a - b;
                case 0x6c: return a * b;
                case 0x71: return a & b;
                case 0x72: return a | b;
                default: return a ^ b; // 73
            }
        }

        private static long divided(int plain, int w, long a, long b) {
            long signedA = Bits.signed(w, a);
            long signedB = Bits.signed(w, b);
            long unsignedA = Bits.lowest(w, a);
            long unsignedB = Bits.lowest(w, b);
            if (signedB == 0L || unsignedB == 0L) {
                throw new ArithmeticException("a division by 0");
            }
            if (plain == 0x6d && signedB == -1L && signedA == -1L << (w - 1)) {
                throw new IllegalStateException("the quotient is too great");
            }
            switch (plain) {
                case 0x6d: return signedA / signedB;
                case 0x6e: return unsignedQuotient(unsignedA, unsignedB);
                case 0x6f: return signedA % signedB;
                default: return unsignedA - unsignedQuotient(unsignedA, unsignedB) * unsignedB; // 70
            }
        }

        /** The quotient of unsigned numbers of 64 bits, b not being 0. */
        private static long unsignedQuotient(long a, long b) {
            if (b < 0L) {
                // From 2 to the 63 on, twice b is beyond every a.
                return Long.compareUnsigned(a, b) < 0 ? 0L : 1L;
            }
            // Java divides signed numbers alone; half of a is never negative, and costs the quotient 1 at most.
            long quotient = (a >>> 1) / b << 1;
            long rest = a - quotient * b;
            return Long.compareUnsigned(rest, b) < 0 ? quotient : quotient + 1L;
        }

        private static long moved(int plain, int w, long a, int n) {
            switch (plain) {
                case 0x74: return a << n;
                case 0x75: return Bits.signed(w, a) >> n;
                case 0x76: return Bits.lowest(w, a) >>> n;
                case 0x77: return turnedUp(w, a, n);
                default: return turnedUp(w, a, (w - n) & (w - 1)); // 78
            }
        }

        private static long turnedUp(int w, long a, int n) {
            return w == 32 ? (long) Integer.rotateLeft((int) a, n) : Long.rotateLeft(a, n);
        }
    }

    /** How floats of 32 and of 64 bits are made up. Bits above the width are 0 in all floats here. */
    private enum Form {
        OF_32(32, 23, 127),
        OF_64(64, 52, 1023);

        final int width;
        final int fractionBits;
        final int bias;
        final long signBit;
        final long infinity;
        final long noNumber;

        Form(int width, int fractionBits, int bias) {
            this.width = width;
            this.fractionBits = fractionBits;
            this.bias = bias;
            this.signBit = 1L << (width - 1);
            this.infinity = (long) (2 * bias + 1) << fractionBits;
            this.noNumber = this.infinity | 1L << (fractionBits - 1);
        }

        long sign(long a) {
            return a & signBit;
        }

        long withoutSign(long a) {
            return a & (signBit - 1L);
        }

        boolean isNoNumber(long a) {
            return withoutSign(a) > infinity;
        }

        boolean isInfinite(long a) {
            return withoutSign(a) == infinity;
        }

        boolean isZero(long a) {
            return withoutSign(a) == 0L;
        }

        int exponent(long a) {
            return (int) ((a & (signBit - 1L)) >>> fractionBits);
        }

        /** The amount of a is its significand, times 2 to its scale. */
        long significand(long a) {
            long hidden = 1L << fractionBits;
            long fraction = a & (hidden - 1L);
            return exponent(a) == 0 ? fraction : fraction | hidden;
        }

        int scale(long a) {
            return Math.max(exponent(a), 1) - bias - fractionBits;
        }

        /**
         * Rounds m (unsigned, not 0), times 2 to the scale. A marked m has at least three bits more
         * than a fraction, so that the mark lies below the bit that tells the half.
         */
        long rounded(long sign, long m, int scale) {
            int raise = Long.numberOfLeadingZeros(m);
            long top = m << raise;
            int exponent = scale - raise + 63 + bias;
            if (exponent > 2 * bias) {
                return sign | infinity;
            }
            int lacking = Math.max(1 - exponent, 0);
            int drop = 63 - fractionBits + lacking;
            if (drop > 64) {
                return sign;
            }
            long kept = drop == 64 ? 0L : top >>> drop;
            // Adding, not joining: the hidden bit, and a carry of rounding, count the exponent up.
            long below = (long) (Math.max(exponent, 1) - 1) << fractionBits;
            return sign | (below + nearest(kept, top << (64 - drop)));
        }

        /** The highest bit of the rest is worth half of the lowest one that is kept. */
        private static long nearest(long kept, long rest) {
            if (rest >= 0L) {
                return kept;
            }
            boolean isHalf = rest << 1 == 0L;
            return isHalf ? kept + (kept & 1L) : kept + 1L;
        }
    }

    /** Operations on floats, by their numbers for 32 bits. */
    private static final class Floats {
        /** Bits below the significands of a sum. */
        private static final int SUM_GUARD = 10;
        /** Bits above raised significands: signed longs then hold their doubles. */
        private static final int HEADROOM = 2;
        private static final int QUOTIENT_BITS = 60;
        private static final int ROOT_BITS = 56;
        /** Two bits of a long make one bit of its root. */
        private static final int ROOT_WHOLE_BITS = 32;

        static boolean test(int plain, Form form, long a, long b) {
            if (form.isNoNumber(a) || form.isNoNumber(b)) {
                return plain == 0x5c;
            }
            long x = asWhole(form, a);
            long y = asWhole(form, b);
            switch (plain) {
                case 0x5b: return x == y;
                case 0x5c: return x != y;
                case 0x5d: return x < y;
                case 0x5e: return x > y;
                case 0x5f: return x <= y;
                default: return x >= y; // 60
            }
        }

        /** Whole numbers in the order of the floats, one for both zeros. */
        private static long asWhole(Form form, long a) {
            return form.sign(a) == 0L ? a : -form.withoutSign(a);
        }

        static long calculate(int plain, Form form, long a, long b) {
            switch (plain) {
                case 0x8b: return form.withoutSign(a);
                case 0x8c: return a ^ form.signBit;
                case 0x98: return form.withoutSign(a) | form.sign(b);
                default: break;
            }
            boolean hasSecond = plain >= 0x92;
            if (form.isNoNumber(a) || hasSecond && form.isNoNumber(b)) {
                return form.noNumber;
            }
            switch (plain) {
                case 0x91: return root(form, a);
                case 0x92: return sum(form, a, b);
                case 0x93: return sum(form, a, b ^ form.signBit);
                case 0x94: return product(form, a, b);
                case 0x95: return quotient(form, a, b);
                case 0x96: return isBelow(form, b, a) ? b : a;
                case 0x97: return isBelow(form, a, b) ? b : a;
                default: return Steps.toWhole(plain, form, a); // 8d .. 90
            }
        }

        /** Here -0 is below +0. */
        private static boolean isBelow(Form form, long a, long b) {
            if (form.isZero(a) && form.isZero(b)) {
                return form.sign(a) != 0L && form.sign(b) == 0L;
            }
            return asWhole(form, a) < asWhole(form, b);
        }

        private static long sum(Form form, long a, long b) {
            if (form.isInfinite(a)) {
                return form.isInfinite(b) && a != b ? form.noNumber : a;
            }
            if (form.isInfinite(b)) {
                return b;
            }
            boolean inOrder = form.withoutSign(a) >= form.withoutSign(b);
            return inOrder ? finiteSum(form, a, b) : finiteSum(form, b, a);
        }

        /** The amount of great is at least that of small. */
        private static long finiteSum(Form form, long great, long small) {
            int scale = form.scale(great);
            long m = form.significand(great) << SUM_GUARD;
            long n = Bits.movedDown(form.significand(small) << SUM_GUARD, scale - form.scale(small));
            long total = form.sign(great) == form.sign(small) ? m + n : m - n;
            if (total == 0L) {
                return form.sign(great & small);
            }
            return form.rounded(form.sign(great), total, scale - SUM_GUARD);
        }

        private static long product(Form form, long a, long b) {
            long sign = form.sign(a ^ b);
            boolean zero = form.isZero(a) || form.isZero(b);
            if (form.isInfinite(a) || form.isInfinite(b)) {
                return zero ? form.noNumber : sign | form.infinity;
            }
            if (zero) {
                return sign;
            }
            long m = raised(form, a);
            long n = raised(form, b);
            long high = Bits.marked(Math.multiplyHigh(m, n), m * n);
            return form.rounded(sign, high, raisedScale(form, a) + raisedScale(form, b) + 64);
        }

        private static long quotient(Form form, long a, long b) {
            long sign = form.sign(a ^ b);
            boolean zeros = form.isZero(a) && form.isZero(b);
            boolean infinites = form.isInfinite(a) && form.isInfinite(b);
            if (zeros || infinites) {
                return form.noNumber;
            }
            if (form.isInfinite(a) || form.isZero(b)) {
                return sign | form.infinity;
            }
            if (form.isInfinite(b) || form.isZero(a)) {
                return sign;
            }
            int scale = raisedScale(form, a) - raisedScale(form, b) - (QUOTIENT_BITS - 1);
            return form.rounded(sign, longDivision(raised(form, a), raised(form, b)), scale);
        }

        /** The quotient of raised significands, one of its bits before the point. */
        private static long longDivision(long m, long n) {
            long quotient = 0L;
            long rest = m;
            for (int i = 0; i < QUOTIENT_BITS; i++) {
                quotient <<= 1;
                if (rest >= n) {
                    rest -= n;
                    quotient |= 1L;
                }
                rest <<= 1;
            }
            return Bits.marked(quotient, rest);
        }

        /** The significand of a, which is no zero, moved up to the headroom. */
        private static long raised(Form form, long a) {
            long m = form.significand(a);
            return m << (Long.numberOfLeadingZeros(m) - HEADROOM);
        }

        private static int raisedScale(Form form, long a) {
            return form.scale(a) - (Long.numberOfLeadingZeros(form.significand(a)) - HEADROOM);
        }

        private static long root(Form form, long a) {
            if (form.isZero(a)) {
                return a;
            }
            if (form.sign(a) != 0L) {
                return form.noNumber;
            }
            if (form.isInfinite(a)) {
                return a;
            }
            // Only an even scale can be halved.
            int odd = raisedScale(form, a) & 1;
            long m = raised(form, a) << odd;
            int half = (raisedScale(form, a) - odd) >> 1;
            return form.rounded(0L, longRoot(m), half - (ROOT_BITS - ROOT_WHOLE_BITS));
        }

        /** The root of m, ROOT_WHOLE_BITS of its bits before the point. */
        private static long longRoot(long m) {
            long root = 0L;
            long rest = 0L;
            long coming = m;
            for (int i = 0; i < ROOT_BITS; i++) {
                rest = rest << 2 | coming >>> 62;
                coming <<= 2;
                // What is added to the square when the root gets a 1 behind its bits.
                long growth = root << 2 | 1L;
                root <<= 1;
                if (rest >= growth) {
                    rest -= growth;
                    root |= 1L;
                }
            }
            return Bits.marked(root, rest);
        }
    }

    /** The whole numbers next to a float, as floats. */
    private static final class Steps {
        private static final int NOT_BELOW = 0x8d;
        private static final int NOT_ABOVE = 0x8e;
        private static final int NEAREST = 0x90;

        static long toWhole(int plain, Form form, long a) {
            int places = form.fractionBits - (form.exponent(a) - form.bias);
            if (places <= 0 || form.isZero(a)) {
                return a;
            }
            return places > form.fractionBits ? belowOne(plain, form, a) : fromOneOn(plain, form, a, places);
        }

        private static long belowOne(int plain, Form form, long a) {
            long sign = form.sign(a);
            long one = (long) form.bias << form.fractionBits;
            long half = (long) (form.bias - 1) << form.fractionBits;
            boolean away = plain == NEAREST ? form.withoutSign(a) > half : goesAway(plain, sign);
            return away ? sign | one : sign;
        }

        /** So many of the lowest bits of a are behind its point. */
        private static long fromOneOn(int plain, Form form, long a, int places) {
            long unit = 1L << places;
            long rest = a & (unit - 1L);
            long cut = a - rest;
            if (rest == 0L) {
                return a;
            }
            boolean away = plain == NEAREST ? isNearerAway(cut, rest, unit) : goesAway(plain, form.sign(a));
            // A carry out of the fraction counts the exponent up, as it must.
            return away ? cut + unit : cut;
        }

        /** Below 2 the unit is the lowest bit of the exponent: 1 there, as the number 1 is odd. */
        private static boolean isNearerAway(long cut, long rest, long unit) {
            long half = unit >>> 1;
            return rest > half || rest == half && (cut & unit) != 0L;
        }

        /** Whether a number that is not whole goes away from 0. */
        private static boolean goesAway(int plain, long sign) {
            return plain == NOT_BELOW && sign == 0L || plain == NOT_ABOVE && sign != 0L;
        }
    }

    /** Operations that make a value of one kind from one of another. */
    private static final class Conversions {
        static long toWholeOrBits(int operation, long a) {
            switch (operation) {
                case 0xa8: return cut(Form.OF_32, a, 32, true);
                case 0xa9: return cut(Form.OF_32, a, 32, false);
                case 0xaa: return cut(Form.OF_64, a, 32, true);
                case 0xab: return cut(Form.OF_64, a, 32, false);
                case 0xac: return Bits.signed(32, a);
                case 0xae: return cut(Form.OF_32, a, 64, true);
                case 0xaf: return cut(Form.OF_32, a, 64, false);
                case 0xb0: return cut(Form.OF_64, a, 64, true);
                case 0xb1: return cut(Form.OF_64, a, 64, false);
                case 0xbd: return a;
                case 0xbf: return a;
                default: return Bits.lowest(32, a); // a7, ad, bc, be
            }
        }

        static long toFloat(int operation, long a) {
            switch (operation) {
                case 0xb2: return fromSigned(Form.OF_32, Bits.signed(32, a));
                case 0xb3: return fromUnsigned(Form.OF_32, Bits.lowest(32, a));
                case 0xb4: return fromSigned(Form.OF_32, a);
                case 0xb5: return fromUnsigned(Form.OF_32, a);
                case 0xb6: return fromFloat(Form.OF_64, a, Form.OF_32);
                case 0xb7: return fromSigned(Form.OF_64, Bits.signed(32, a));
                case 0xb8: return fromUnsigned(Form.OF_64, Bits.lowest(32, a));
                case 0xb9: return fromSigned(Form.OF_64, a);
                case 0xba: return fromUnsigned(Form.OF_64, a);
                default: return fromFloat(Form.OF_32, Bits.lowest(32, a), Form.OF_64); // bb
            }
        }

        private static long fromSigned(Form to, long a) {
            return a < 0L ? to.rounded(to.signBit, -a, 0) : fromUnsigned(to, a);
        }

        private static long fromUnsigned(Form to, long a) {
            return a == 0L ? 0L : to.rounded(0L, a, 0);
        }

        private static long fromFloat(Form from, long a, Form to) {
            if (from.isNoNumber(a)) {
                return to.noNumber;
            }
            long sign = from.sign(a) == 0L ? 0L : to.signBit;
            if (from.isInfinite(a)) {
                return sign | to.infinity;
            }
            if (from.isZero(a)) {
                return sign;
            }
            return to.rounded(sign, from.significand(a), from.scale(a));
        }

        private static long cut(Form from, long value, int w, boolean signed) {
            long a = Bits.lowest(from.width, value);
            if (from.isNoNumber(a)) {
                throw new UnsupportedOperationException("it is no number");
            }
            boolean negative = from.sign(a) != 0L;
            boolean beyondLongs = from.exponent(a) - from.bias >= 64;
            long amount = beyondLongs ? 0L : cutAmount(from, a);
            if (beyondLongs || Long.compareUnsigned(amount, greatest(negative, w, signed)) > 0) {
                throw new IllegalStateException("it is no such whole number");
            }
            return Bits.lowest(w, negative ? -amount : amount);
        }

        /** The amount of a, which is below 2 to the 64, as a whole number. */
        private static long cutAmount(Form from, long a) {
            int scale = from.scale(a);
            if (scale <= -64) {
                return 0L;
            }
            long m = from.significand(a);
            return scale >= 0 ? m << scale : m >>> -scale;
        }

        /** The greatest amount, unsigned, of a whole number of that sign. */
        private static long greatest(boolean negative, int w, boolean signed) {
            long half = 1L << (w - 1);
            if (signed) {
                return negative ? half : half - 1L;
            }
            return negative ? 0L : Bits.lowest(w, -1L);
        }
    }
}
