/** W, with the floats of so many bits; F and B are as in the document. */
final class Width {
    static final Width OF_32 = new Width(32, 23, 127);
    static final Width OF_64 = new Width(64, 52, 1023);
    static final Width[] BOTH = {OF_32, OF_64};

    final int w;
    final int f;
    final int b;

    private Width(int w, int f, int b) {
        this.w = w;
        this.f = f;
        this.b = b;
    }

    /** The operation of this width, by its number for 32 bits. */
    int operation(int of32) {
        if (w == 32) {
            return of32;
        }
        if (of32 <= 0x4f) {
            return of32 + 0x50 - 0x45;
        }
        if (of32 <= 0x60) {
            return of32 + 0x61 - 0x5b;
        }
        return of32 <= 0x78 ? of32 + 0x79 - 0x67 : of32 + 0x99 - 0x8b;
    }

    /** A whole number's bits. */
    long whole(long number) {
        return Values.low(w, number);
    }

    /** The least signed whole number, and the bit of a float's sign. */
    long least() {
        return 1L << (w - 1);
    }

    long greatestSigned() {
        return least() - 1L;
    }

    long greatestUnsigned() {
        return whole(-1L);
    }

    long minus(long a) {
        return a ^ least();
    }

    long number(int exponent, long fraction) {
        return (long) exponent << f | fraction;
    }

    /** 2 to the n, also where the exponent of such a float is 0. */
    long power(int n) {
        return n >= 1 - b ? number(n + b, 0L) : 1L << (n - (1 - b - f));
    }

    long one() {
        return power(0);
    }

    long half() {
        return power(-1);
    }

    long oneAndAHalf() {
        return one() | 1L << (f - 1);
    }

    long infinite() {
        return number(2 * b + 1, 0L);
    }

    /** The greatest number: 2 to the B + 1, less 2 to the B - F. */
    long greatest() {
        return infinite() - 1L;
    }

    /** The least amount but 0. */
    long smallest() {
        return 1L;
    }

    /** The least amount whose exponent is not 0. */
    long smallestWithExponent1() {
        return number(1, 0L);
    }

    long greatestWithExponent0() {
        return number(1, 0L) - 1L;
    }

    /** The one that is answered. */
    long noNumber() {
        return infinite() | 1L << (f - 1);
    }

    /** From the least fraction to the greatest, of both signs. */
    long[] noNumbers() {
        long[] plus = {infinite() | 1L, infinite() | 1L << (f - 2), infinite() | (1L << (f - 1)) - 1L, noNumber(),
            noNumber() | 1L, infinite() | (1L << f) - 1L};
        long[] both = new long[2 * plus.length];
        for (int i = 0; i < plus.length; i++) {
            both[i] = plus[i];
            both[plus.length + i] = minus(plus[i]);
        }
        return both;
    }

    /** Zeros, numbers and infinite ones. */
    long[] others() {
        long[] plus = {0L, smallest(), greatestWithExponent0(), smallestWithExponent1(), half(), one() - 1L, one(),
            oneAndAHalf(), greatest(), infinite()};
        long[] both = new long[2 * plus.length];
        for (int i = 0; i < plus.length; i++) {
            both[i] = plus[i];
            both[plus.length + i] = minus(plus[i]);
        }
        return both;
    }
}
