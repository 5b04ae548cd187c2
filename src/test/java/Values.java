import java.util.TreeSet;

/** Values for the tests: those at the edges, and many others, the same in every run. */
final class Values {
    private long state;

    Values(long seed) {
        state = seed;
    }

    /** A mixing of a counter, so that all bits change. */
    long any() {
        state += 0x9e3779b97f4a7c15L;
        long z = state;
        z = (z ^ (z >>> 30)) * 0xbf58476d1ce4e5b9L;
        z = (z ^ (z >>> 27)) * 0x94d049bb133111ebL;
        return z ^ (z >>> 31);
    }

    int below(int bound) {
        return (int) Math.floorMod(any(), (long) bound);
    }

    static long[] wholes(int w) {
        TreeSet<Long> all = new TreeSet<>();
        for (int i = 0; i < w; i++) {
            for (long d = -2; d <= 2; d++) {
                all.add(low(w, (1L << i) + d));
                all.add(low(w, -(1L << i) + d));
            }
        }
        all.add(low(w, 0x5555555555555555L));
        all.add(low(w, 0xaaaaaaaaaaaaaaaaL));
        all.add(low(w, 0x123456789abcdef0L));
        return row(all);
    }

    /** The edges of all that is told by exponents, with their neighbours, and values that are no number. */
    static long[] floats(int w) {
        int f = w == 32 ? 23 : 52;
        int bias = w == 32 ? 127 : 1023;
        int top = 2 * bias + 1;
        int[] exponents = {0, 1, 2, f, f + 1, bias / 2, bias - f - 2, bias - f - 1, bias - f, bias - 2, bias - 1, bias,
            bias + 1, bias + 2, bias + 22, bias + 23, bias + 24, bias + 30, bias + 31, bias + 32, bias + f - 1, bias + f,
            bias + f + 1, bias + 62, bias + 63, bias + 64, bias + bias / 2, top - 2, top - 1, top};
        TreeSet<Long> all = new TreeSet<>();
        for (int e : exponents) {
            for (long fraction : new long[] {0, 1, 2, 3, (1L << (f - 1)) - 1, 1L << (f - 1), (1L << (f - 1)) + 1,
                    3L << (f - 2), 5L << (f - 3), (1L << f) - 2, (1L << f) - 1}) {
                long bits = ((long) e << f) | fraction;
                all.add(bits);
                all.add(bits | 1L << (w - 1));
            }
        }
        return row(all);
    }

    /** A float, near to other ones in one case of two, with few bits in one case of four. */
    long anyFloat(int w, long near) {
        int f = w == 32 ? 23 : 52;
        long bits = low(w, any());
        if (below(4) == 0) {
            bits &= -1L << below(f);
        }
        if (below(2) == 0) {
            long exponent = (near >>> f & (1L << (w - 1 - f)) - 1) + below(2 * f + 8) - f - 4;
            exponent = Math.max(0, Math.min((1L << (w - 1 - f)) - 1, exponent));
            bits = bits & (1L << f) - 1 | bits & 1L << (w - 1) | exponent << f;
        }
        return bits;
    }

    static long low(int w, long a) {
        return w == 32 ? a & 0xffffffffL : a;
    }

    private static long[] row(TreeSet<Long> all) {
        long[] row = new long[all.size()];
        int i = 0;
        for (long a : all) {
            row[i++] = a;
        }
        return row;
    }
}
