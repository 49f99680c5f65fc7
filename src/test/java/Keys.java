import java.math.BigInteger;
import java.util.Random;

/** Keys for the tests: primes of told lengths, always the same ones. */
final class Keys {
    final BigInteger p;
    final BigInteger q;
    final BigInteger e;
    final BigInteger n;
    final BigInteger d;

    /** A key whose n has just so many bits. */
    Keys(int bits, long exponent, long seed) {
        Random random = new Random(seed);
        BigInteger one = BigInteger.ONE;
        BigInteger odd = BigInteger.valueOf(exponent);
        BigInteger foundP;
        BigInteger foundQ;
        do {
            foundP = BigInteger.probablePrime(bits / 2, random);
            foundQ = BigInteger.probablePrime(bits - bits / 2, random);
        } while (foundP.multiply(foundQ).bitLength() != bits || foundP.equals(foundQ)
                || !odd.gcd(foundP.subtract(one)).equals(one) || !odd.gcd(foundQ.subtract(one)).equals(one));
        p = foundP;
        q = foundQ;
        e = odd;
        n = p.multiply(q);
        d = e.modInverse(Model.lcm(p.subtract(one), q.subtract(one)));
    }

    /** What part answers, from n to qi. */
    BigInteger[] parts() {
        BigInteger lessP = p.subtract(BigInteger.ONE);
        BigInteger lessQ = q.subtract(BigInteger.ONE);
        return new BigInteger[] {n, e, d, p, q, d.mod(lessP), d.mod(lessQ), q.modInverse(p)};
    }

    int length() {
        return (n.bitLength() + 7) / 8;
    }

    /** Makes this key in a house, by way of slots 20 to 22: its number. */
    int whole(House h) {
        h.put(20, p).put(21, q).put(22, e);
        return h.seal.key(20, 21, 22);
    }

    int open(House h) {
        h.put(20, n).put(22, e);
        return h.seal.open(20, 22);
    }

    byte[] raised(byte[] row) {
        return House.sized(new BigInteger(1, row).modPow(e, n), length());
    }

    byte[] lowered(byte[] row) {
        return House.sized(new BigInteger(1, row).modPow(d, n), length());
    }
}
