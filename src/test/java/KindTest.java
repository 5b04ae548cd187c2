/** Promise 6: the kinds of the values of all operations, written out. */
public final class KindTest {
    private static final Check CHECK = new Check();

    /** From 45 on: the kinds of the answer, of a and of b, or - for none. */
    private static final String KINDS =
        // 45 .. 4f, 50 .. 5a
        "00- 000 000 000 000 000 000 000 000 000 000 01- 011 011 011 011 011 011 011 011 011 011 "
        // 5b .. 60, 61 .. 66
        + "022 022 022 022 022 022 033 033 033 033 033 033 "
        // 67 .. 78
        + "00- 00- 00- 000 000 000 000 000 000 000 000 000 000 000 000 000 000 000 "
        // 79 .. 8a
        + "11- 11- 11- 111 111 111 111 111 111 111 111 111 111 111 111 111 111 111 "
        // 8b .. 98
        + "22- 22- 22- 22- 22- 22- 22- 222 222 222 222 222 222 222 "
        // 99 .. a6
        + "33- 33- 33- 33- 33- 33- 33- 333 333 333 333 333 333 333 "
        // a7 .. b1
        + "01- 02- 02- 03- 03- 10- 10- 12- 12- 13- 13- "
        // b2 .. bb
        + "20- 20- 21- 21- 23- 30- 30- 31- 31- 32- "
        // bc .. bf
        + "02- 13- 20- 31-";

    public static void main(String[] args) {
        String[] kinds = KINDS.split(" ");
        CHECK.same("how many operations", kinds.length, 0xbf - 0x45 + 1);
        for (int operation = -2; operation <= 0x200; operation++) {
            boolean exists = operation >= 0x45 && operation <= 0xbf;
            for (int which = -2; which <= 5; which++) {
                boolean has = exists && which >= 0 && which <= 2;
                due(operation, which, has ? kinds[operation - 0x45].charAt(which) : '-');
            }
        }
        int[] far = {Integer.MIN_VALUE, Integer.MAX_VALUE, -0x6a};
        for (int number : far) {
            due(number, 0, '-');
            due(0x6a, number, '-');
            due(number, number, '-');
        }
        CHECK.same("NONE", BitArithmetic.NONE, -1);
        CHECK.end();
    }

    private static void due(int operation, int which, char want) {
        BitArithmetic x = new BitArithmetic();
        int kind = want == '-' ? -1 : want - '0';
        CHECK.same("kind(" + Integer.toHexString(operation) + ", " + which + ")", x.kind(operation, which), kind);
    }
}
