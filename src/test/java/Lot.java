import java.math.BigInteger;

/** LOT by the document's words, in numbers without an end, each step cut to 32 bits. */
final class Lot {
    private static final BigInteger ALL = BigInteger.ONE.shiftLeft(32);

    private Lot() {
    }

    static int of(int n, int seed, int which) {
        BigInteger h = BigInteger.valueOf(seed);
        for (int it : new int[] {121, which}) {
            h = h.xor(BigInteger.valueOf(it));
            h = h.multiply(BigInteger.valueOf(1103515245)).add(BigInteger.valueOf(12345)).mod(ALL);
            h = h.xor(h.shiftRight(15));
        }
        return h.shiftRight(1).mod(BigInteger.valueOf(n)).intValue();
    }
}
