import java.math.BigInteger;

/** x and the r that comes from it, by numbers without a bound that are cut to 64 bits by hand. */
final class Dice {
    private static final BigInteger ROUND = BigInteger.ONE.shiftLeft(64);
    private static final BigInteger FACTOR = new BigInteger("6364136223846793005");
    private static final BigInteger MORE = new BigInteger("1442695040888963407");

    private BigInteger x;

    Dice(long x) {
        this.x = BigInteger.valueOf(x).mod(ROUND);
    }

    /** Replaces x, and returns r. */
    int next() {
        x = x.multiply(FACTOR).add(MORE).mod(ROUND);
        return x.shiftRight(33).intValueExact();
    }

    /** The r of the teaching that comes after so many others since x was 1. */
    static int after(int teachings) {
        Dice dice = new Dice(1);
        for (int i = 0; i < teachings; i++) {
            dice.next();
        }
        return dice.next();
    }

    static int bit(int r) {
        return r / 16 % 12;
    }

    static boolean isWrong(int r, int noise, int distance) {
        return r % 10 < noise * distance;
    }

    static int learned(int code, int r, int noise, int distance) {
        return isWrong(r, noise, distance) ? code ^ 1 << bit(r) : code;
    }
}
