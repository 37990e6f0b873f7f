import java.math.BigInteger;

/** The draws that a seed gives, by the document's words and numbers without bounds. */
final class Draws {
    private static final BigInteger ROUND = BigInteger.ONE.shiftLeft(64);
    private static final BigInteger TIMES = new BigInteger("6364136223846793005");
    private static final BigInteger PLUS = new BigInteger("1442695040888963407");

    private Draws() {
    }

    /** One draw behind another, each of so many. */
    static int[] by(long seed, int... of) {
        BigInteger x = BigInteger.valueOf(seed).mod(ROUND);
        int[] found = new int[of.length];
        for (int i = 0; i < of.length; i++) {
            x = x.multiply(TIMES).add(PLUS).mod(ROUND);
            found[i] = x.shiftRight(33).mod(BigInteger.valueOf(of[i])).intValue();
        }
        return found;
    }

    /** The first seed from this one on whose draws begin so. */
    static long seed(long from, int[] of, int... begin) {
        for (long seed = from; seed < from + 1000000; seed++) {
            int[] drawn = by(seed, of);
            boolean same = true;
            for (int i = 0; i < begin.length; i++) {
                same &= begin[i] < 0 || drawn[i] == begin[i];
            }
            if (same) {
                return seed;
            }
        }
        throw new IllegalStateException("no such seed");
    }
}
