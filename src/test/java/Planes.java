import java.math.BigInteger;
import java.util.function.Supplier;

/** The planes that tests begin with, and a look at every coefficient of one. */
final class Planes {
    static final int SEED = 1118;

    /** What is due at a coefficient. */
    interface Cells {
        int of(int bx, int by, int v, int u);
    }

    private Planes() {
    }

    static CoefTurns filled(int w, int h) {
        CoefTurns x = new CoefTurns(w, h);
        x.fill(SEED);
        return x;
    }

    static int filledAt(int bx, int by, int v, int u) {
        return fillOf(SEED, bx, by, 8 * v + u);
    }

    static int minusIf(boolean other, int value) {
        return other ? -value : value;
    }

    /** The document's formula in numbers that never wrap around. */
    static int fillOf(int seed, int bx, int by, int place) {
        BigInteger k = BigInteger.valueOf(64L * (8 * by + bx) + place);
        BigInteger mixed = BigInteger.valueOf(seed).add(k.multiply(BigInteger.valueOf(40503)))
                .multiply(BigInteger.valueOf(2654435761L)).mod(BigInteger.ONE.shiftLeft(32));
        return mixed.divide(BigInteger.ONE.shiftLeft(20)).mod(BigInteger.valueOf(2047)).intValue() - 1023;
    }

    static void hasSize(Due due, String what, CoefTurns x, int w, int h) {
        due.is(what + ": W", x.look(0), w);
        due.is(what + ": H", x.look(1), h);
    }

    /**
     * W, H and every coefficient are due. Each block is asked of an object made
     * anew, as nothing is promised of an object after its 512th call.
     */
    static void are(Due due, String what, Supplier<CoefTurns> made, int w, int h, Cells want) {
        hasSize(due, what, made.get(), w, h);
        for (int by = 0; by < h; by++) {
            for (int bx = 0; bx < w; bx++) {
                blockIs(due, what, made.get(), bx, by, want);
            }
        }
    }

    private static void blockIs(Due due, String what, CoefTurns x, int bx, int by, Cells want) {
        for (int v = 0; v < 8; v++) {
            for (int u = 0; u < 8; u++) {
                String call = what + ": at " + bx + ", " + by + ", " + (8 * v + u);
                due.is(call, x.at(bx, by, 8 * v + u), want.of(bx, by, v, u));
            }
        }
    }
}
