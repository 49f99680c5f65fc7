import java.math.BigInteger;

/** The powers of one base that say whether a number is PROBABLE. */
final class Powers {
    private final BigInteger number;
    private final BigInteger less;
    private final int base;

    Powers(BigInteger number, int base) {
        this.number = number;
        this.less = number.subtract(BigInteger.ONE);
        this.base = base;
    }

    /** The s of NUMBER - 1 = 2^s * t. */
    int twos() {
        return less.getLowestSetBit();
    }

    /** What w^t leaves. */
    BigInteger first() {
        return BigInteger.valueOf(base).modPow(less.shiftRight(twos()), number);
    }

    /** The k with which w^(2^k t) leaves NUMBER - 1, from 0 to s - 1, or -1. */
    int placeOfLess() {
        BigInteger left = first();
        for (int k = 0; k < twos(); k++) {
            if (left.equals(less)) {
                return k;
            }
            left = left.multiply(left).mod(number);
        }
        return -1;
    }

    boolean isDeceived() {
        return first().equals(BigInteger.ONE) || placeOfLess() >= 0;
    }
}
