import java.math.BigInteger;

/** Finds a long run of numbers that have small divisors. */
final class Gaps {
    private Gaps() {
    }

    /**
     * A number of at most 64 bytes with no prime among the 2,000 behind it. Remainders by the primes below
     * some 350 are chosen one after the other so that each strikes out as many places of the run as it can;
     * among the numbers with these remainders one is soon found whose other places hold no prime either.
     */
    static BigInteger startOfRun() {
        boolean[] struck = new boolean[2200];
        BigInteger modulus = BigInteger.ONE;
        BigInteger start = BigInteger.ZERO;
        for (int prime = 2; modulus.bitLength() < 490; prime++) {
            if (!BigInteger.valueOf(prime).isProbablePrime(40)) {
                continue;
            }
            int place = bestPlace(struck, prime);
            for (int k = place; k < struck.length; k += prime) {
                struck[k] = true;
            }
            // start + 1 + place leaves 0 by the prime
            BigInteger step = modulus.modInverse(BigInteger.valueOf(prime));
            BigInteger want = BigInteger.valueOf(-1L - place).subtract(start).multiply(step);
            start = start.add(modulus.multiply(want.mod(BigInteger.valueOf(prime))));
            modulus = modulus.multiply(BigInteger.valueOf(prime));
        }
        for (int k = 0; k < 100000; k++) {
            if (!hasPrime(start, struck)) {
                return start;
            }
            start = start.add(modulus);
        }
        throw new IllegalStateException("no run was found");
    }

    private static int bestPlace(boolean[] struck, int prime) {
        int best = 0;
        int most = -1;
        for (int place = 0; place < prime; place++) {
            int fresh = 0;
            for (int k = place; k < struck.length; k += prime) {
                fresh += struck[k] ? 0 : 1;
            }
            if (fresh > most) {
                most = fresh;
                best = place;
            }
        }
        return best;
    }

    private static boolean hasPrime(BigInteger start, boolean[] struck) {
        for (int k = 0; k < struck.length; k++) {
            if (!struck[k] && start.add(BigInteger.valueOf(1L + k)).isProbablePrime(10)) {
                return true;
            }
        }
        return false;
    }
}
