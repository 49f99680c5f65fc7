import java.math.BigInteger;
import java.util.Random;

/** Each sentence of terms 2 and of promises 9 to 13 that names an edge, at the edge and on both its sides. */
final class NumberEdgesTest {
    private static final Check CHECK = new Check();
    private static final BigInteger NIL = BigInteger.ZERO;
    private static final BigInteger ONE = BigInteger.ONE;
    private static final BigInteger TWO = BigInteger.TWO;
    private static final BigInteger THREE = BigInteger.valueOf(3);
    /** The highest number of 256 bytes, and the first one of more than 128. */
    private static final BigInteger TOP = power(2048).subtract(ONE);
    private static final BigInteger HALF = power(1024);
    /** The last prime of 64 bytes and the first one behind it. */
    private static final BigInteger LAST_PRIME = power(512).subtract(BigInteger.valueOf(569));
    private static final BigInteger FIRST_LONG_PRIME = power(512).add(BigInteger.valueOf(75));
    /** A prime, and how far behind it the next one stands. */
    private static final BigInteger LONELY = new BigInteger("4806725264e98076508681c3750ccc855755b00c66452d5ffcb8b0c798"
            + "d319f1797b0ec6b3aae1361b958ffab088bc05991a0cff73ebc637563bb0413a6b", 16);
    private static final int LONELY_GAP = 2476;
    /** A product of two primes that deceives the twelve bases, but not 41. */
    private static final BigInteger DECEIVER = new BigInteger("318665857834031151167461");

    public static void main(String[] args) {
        sums();
        differences();
        products();
        quotients();
        rests();
        divisors();
        multiples();
        inverses();
        inversesByOne();
        powers();
        powersOfNil();
        byNil();
        noInverse();
        tooLong();
        longModulus();
        otherWhat();
        comparisons();
        bitLengths();
        longCandidates();
        firstPrimes();
        evenCandidates();
        eachBase();
        firstPower();
        laterPowers();
        nextAbove();
        nextAmong();
        nextNone();
        nextTooLong();
        CHECK.end();
    }

    private static BigInteger power(int bits) {
        return BigInteger.TWO.pow(bits);
    }

    private static BigInteger big(long value) {
        return BigInteger.valueOf(value);
    }

    private static String brief(BigInteger number) {
        return number.bitLength() < 100 ? number.toString() : "0x" + number.toString(16);
    }

    /**
     * A house that has reckoned with long numbers before, so that it is seen if a later call does not begin anew.
     */
    private static House used() {
        House h = new House().put(0, TOP).put(1, LONELY).put(2, LAST_PRIME).put(3, 251);
        for (int what = 0; what < 8; what++) {
            h.seal.calc(what, 1, 2, 2, 4);
        }
        h.seal.calc(8, 0, 3, 2, 4);
        h.seal.calc(3, 0, 1, 2, 4);
        return h;
    }

    /** A want below 0 is why not: what has been in the slot stays there then. */
    private static void due(int what, BigInteger a, BigInteger b, BigInteger c, BigInteger want) {
        House h = used().put(0, a).put(1, b).put(2, c).put(3, 0, 9);
        String name = what + " of " + brief(a) + ", " + brief(b) + ", " + brief(c);
        boolean refused = want.signum() < 0;
        long answer = refused ? want.intValue() : House.fewest(want).length;
        CHECK.due(name, answer, h.seal.calc(what, 0, 1, 2, 3));
        CHECK.holds(name + ": what stands there", h.has(3, refused ? House.bytes(0, 9) : House.fewest(want)));
    }

    private static void due(int what, BigInteger a, BigInteger b, BigInteger want) {
        due(what, a, b, ONE, want);
    }

    private static void due(int what, long a, long b, long want) {
        due(what, big(a), big(b), ONE, big(want));
    }

    private static void sums() {
        CHECK.sentence("NUMBERS a, b, c of SLOTS: 0 a + b");
        due(0, 0, 0, 0);
        due(0, 0, 1, 1);
        due(0, 1, 0, 1);
        due(0, 254, 1, 255);
        due(0, 255, 1, 256);
        due(0, 255, 255, 510);
        due(0, TOP, NIL, TOP);
        due(0, NIL, TOP, TOP);
        due(0, TOP.subtract(ONE), ONE, TOP);
        due(0, power(2047), power(2047).subtract(ONE), TOP);
        for (int bits = 1; bits < 2048; bits += 13) {
            due(0, power(bits).subtract(ONE), ONE, power(bits));
        }
    }

    private static void differences() {
        CHECK.sentence("Refused: -1: a - b below 0");
        for (BigInteger a : new BigInteger[] {NIL, ONE, big(255), big(256), power(28), power(56), HALF, TOP}) {
            due(1, a, a, NIL);
            due(1, a, NIL, a);
            if (!a.equals(TOP)) {
                due(1, a, a.add(ONE), big(-1));
                due(1, a.add(ONE), a, ONE);
                due(1, a, TOP, big(-1));
            }
        }
        for (int bits = 1; bits < 2048; bits += 13) {
            due(1, power(bits), ONE, power(bits).subtract(ONE));
            due(1, power(bits).subtract(ONE), power(bits), big(-1));
        }
        House h = new House().put(0, 0, 0, 0, 5).put(1, 6);
        CHECK.due("0s ahead do not make it more", -1, h.seal.calc(1, 0, 1, 0, 2));
        CHECK.due("nor less", 1, h.seal.calc(1, 1, 0, 0, 2));
    }

    private static void products() {
        CHECK.sentence("2 a * b");
        due(2, 0, 0, 0);
        due(2, 1, 0, 0);
        due(2, 15, 17, 255);
        due(2, 16, 16, 256);
        due(2, TOP, NIL, NIL);
        due(2, NIL, TOP, NIL);
        due(2, TOP, ONE, TOP);
        due(2, ONE, TOP, TOP);
        due(2, HALF, HALF.subtract(ONE), power(2048).subtract(HALF));
        due(2, HALF.subtract(ONE), HALF.add(ONE), TOP);
    }

    private static void quotients() {
        CHECK.sentence("3 a / b");
        due(3, 0, 1, 0);
        due(3, 6, 7, 0);
        due(3, 7, 7, 1);
        due(3, 8, 7, 1);
        due(3, 13, 7, 1);
        due(3, 14, 7, 2);
        due(3, TOP, ONE, TOP);
        due(3, TOP, TOP, ONE);
        due(3, TOP.subtract(ONE), TOP, NIL);
        due(3, TOP, TOP.subtract(ONE), ONE);
        due(3, TOP, TWO, power(2047).subtract(ONE));
        due(3, TOP, HALF, HALF.subtract(ONE));
        due(3, TOP, HALF.subtract(ONE), HALF.add(ONE));
        Random random = new Random(3);
        for (int bits = 1; bits < 1024; bits += 9) {
            BigInteger b = new BigInteger(bits, random).setBit(bits - 1);
            BigInteger times = new BigInteger(1000, random);
            due(3, b.multiply(times).add(b).subtract(ONE), b, times);
            due(3, b.multiply(times), b, times);
            due(3, b.multiply(times).subtract(ONE), b, times.subtract(ONE));
        }
    }

    private static void rests() {
        CHECK.sentence("4 what is left of it");
        due(4, 0, 1, 0);
        due(4, 1, 1, 0);
        due(4, 6, 7, 6);
        due(4, 7, 7, 0);
        due(4, 8, 7, 1);
        due(4, TOP, ONE, NIL);
        due(4, TOP, TOP, NIL);
        due(4, TOP.subtract(ONE), TOP, TOP.subtract(ONE));
        due(4, TOP, TOP.subtract(ONE), ONE);
        due(4, TOP, power(2047), power(2047).subtract(ONE));
        Random random = new Random(4);
        for (int bits = 2; bits < 1024; bits += 9) {
            BigInteger b = new BigInteger(bits, random).setBit(bits - 1);
            BigInteger times = new BigInteger(1000, random).setBit(0);
            due(4, b.multiply(times).subtract(ONE), b, b.subtract(ONE));
            due(4, b.multiply(times), b, NIL);
            due(4, b.multiply(times).add(ONE), b, ONE);
        }
    }

    private static void divisors() {
        CHECK.sentence("5 the greatest common divisor (of 0 and 0: 0)");
        due(5, 0, 0, 0);
        due(5, 0, 1, 1);
        due(5, 1, 0, 1);
        due(5, 0, 7, 7);
        due(5, 7, 0, 7);
        due(5, 7, 7, 7);
        due(5, 6, 7, 1);
        due(5, TOP, NIL, TOP);
        due(5, NIL, TOP, TOP);
        due(5, TOP, TOP, TOP);
        due(5, TOP, TOP.subtract(ONE), ONE);
        due(5, power(2047), power(2046), power(2046));
    }

    private static void multiples() {
        CHECK.sentence("6 the least common multiple (0, if one is 0)");
        due(6, 0, 0, 0);
        due(6, 0, 1, 0);
        due(6, 1, 0, 0);
        due(6, TOP, NIL, NIL);
        due(6, NIL, TOP, NIL);
        due(6, 1, 1, 1);
        due(6, 4, 6, 12);
        due(6, TOP, ONE, TOP);
        due(6, TOP, TOP, TOP);
        due(6, power(2047), power(2046), power(2047));
        due(6, HALF, HALF.subtract(ONE), power(2048).subtract(HALF));
    }

    private static void inverses() {
        CHECK.sentence("7 the inverse of a by b: x below b, from 0 on, with a * x leaving 1 by b");
        due(7, 1, 2, 1);
        due(7, 3, 2, 1);
        due(7, 1, 7, 1);
        due(7, 6, 7, 6);
        due(7, 8, 7, 1);
        due(7, 2, 7, 4);
        due(7, ONE, TOP, ONE);
        due(7, TOP.subtract(ONE), TOP, TOP.subtract(ONE));
        due(7, TOP, TOP.subtract(ONE), ONE);
        due(7, TWO, TOP, power(2047));
        due(7, TOP, power(2047), power(2047).subtract(ONE));
    }

    private static void inversesByOne() {
        CHECK.sentence("there is no inverse (7; by 1 it is 0)");
        due(7, 0, 1, 0);
        due(7, 1, 1, 0);
        due(7, 2, 1, 0);
        due(7, TOP, ONE, NIL);
        due(7, 0, 2, -3);
        due(7, 0, 0, -2);
    }

    private static void powers() {
        CHECK.sentence("8 a to the power b, by c");
        BigInteger c = HALF.subtract(ONE);
        for (BigInteger a : new BigInteger[] {ONE, TWO, c.subtract(ONE), c, c.add(ONE), TOP}) {
            due(8, a, NIL, c, ONE);
            due(8, a, ONE, c, a.mod(c));
            due(8, a, TWO, c, a.multiply(a).mod(c));
            due(8, a, TOP, c, a.modPow(TOP, c));
            due(8, a, power(2047), c, a.modPow(power(2047), c));
            due(8, a, THREE, ONE, NIL);
            due(8, a, THREE, TWO, a.mod(TWO));
        }
        due(8, big(3), TOP, power(1023), big(3).modPow(TOP, power(1023)));
        Random random = new Random(8);
        for (int bits : new int[] {1024, 1023, 1017, 1016, 1009, 1008, 1007, 513, 512, 57, 56, 29, 28, 27, 9, 8, 2}) {
            BigInteger odd = new BigInteger(bits, random).setBit(bits - 1).setBit(0);
            BigInteger even = odd.subtract(ONE);
            for (BigInteger a : new BigInteger[] {TOP, TOP.subtract(ONE), new BigInteger(2048, random)}) {
                BigInteger b = new BigInteger(200, random).setBit(199);
                due(8, a, b, odd, a.modPow(b, odd));
                due(8, a, b, even, a.modPow(b, even));
            }
            due(8, odd.subtract(ONE), TOP, odd, odd.subtract(ONE));
            due(8, odd, TOP, odd, NIL);
            due(8, odd.add(ONE), TOP, odd, ONE.mod(odd));
        }
    }

    private static void powersOfNil() {
        CHECK.sentence("(0 to the power 0 is 1, left by c)");
        due(8, NIL, NIL, ONE, NIL);
        due(8, NIL, NIL, TWO, ONE);
        due(8, NIL, NIL, HALF.subtract(ONE), ONE);
        due(8, NIL, ONE, TWO, NIL);
        due(8, ONE, NIL, ONE, NIL);
        due(8, ONE, NIL, TWO, ONE);
        due(8, TWO, NIL, TWO, ONE);
        due(8, NIL, NIL, NIL, big(-2));
        for (BigInteger b : new BigInteger[] {ONE, TWO, THREE, big(4), big(5), big(6), power(2047), TOP}) {
            due(8, NIL, b, TWO, NIL);
            due(8, NIL, b, HALF.subtract(ONE), NIL);
            due(8, power(1023), b, power(1023), NIL);
        }
    }

    private static void byNil() {
        CHECK.sentence("-2: by 0 (3, 4, 7, 8)");
        for (BigInteger a : new BigInteger[] {NIL, ONE, TOP}) {
            for (int what : new int[] {3, 4, 7}) {
                due(what, a, NIL, big(-2));
                due(what, a, NIL, NIL, big(-2));
            }
            due(8, a, ONE, NIL, big(-2));
            due(8, a, NIL, NIL, big(-2));
            due(8, a, TOP, NIL, big(-2));
            due(3, a, ONE, NIL, a);
            due(4, a, ONE, NIL, NIL);
            due(7, a, ONE, NIL, NIL);
            due(8, a, ONE, ONE, NIL);
        }
        for (int what : new int[] {0, 1, 2, 5, 6}) {
            due(what, NIL, NIL, NIL, NIL);
        }
        House h = new House().put(0, 5).put(1, new byte[256]).put(2, 0, 9);
        for (int what : new int[] {3, 4, 7}) {
            CHECK.due(what + " by 256 0s", -2, h.seal.calc(what, 0, 1, 0, 2));
        }
        CHECK.due("8 by 256 0s", -2, h.seal.calc(8, 0, 0, 1, 2));
        CHECK.holds("nothing changed", h.has(2, House.bytes(0, 9)));
    }

    private static void noInverse() {
        CHECK.sentence("-3: there is no inverse (7");
        due(7, 0, 7, -3);
        due(7, 7, 7, -3);
        due(7, 14, 7, -3);
        due(7, 2, 4, -3);
        due(7, 3, 4, 3);
        due(7, 6, 9, -3);
        due(7, 5, 9, 2);
        due(7, 9, 6, -3);
        due(7, NIL, TOP, big(-3));
        due(7, TOP, TOP, big(-3));
        due(7, THREE, TOP, big(-3));
        due(7, TOP, THREE, big(-3));
        due(7, power(2047), TOP.subtract(ONE), big(-3));
    }

    private static void tooLong() {
        CHECK.sentence("-4: more than 256 BYTES would come");
        BigInteger four = big(-4);
        due(0, TOP, ONE, four);
        due(0, ONE, TOP, four);
        due(0, TOP, TOP, four);
        due(0, power(2047), power(2047), four);
        due(0, power(2047), power(2047).subtract(ONE), TOP);
        due(2, HALF, HALF, four);
        due(2, HALF, HALF.subtract(ONE), power(2048).subtract(HALF));
        due(2, power(2047), TWO, four);
        due(2, power(2047), ONE, power(2047));
        due(2, power(2047).subtract(ONE), TWO, TOP.subtract(ONE));
        due(2, TOP, TWO, four);
        due(2, TOP, TOP, four);
        due(2, HALF.add(ONE), HALF, four);
        due(2, HALF.add(ONE), HALF.subtract(ONE), TOP);
        // 2^2048 leaves 1 by 3, so the two products stand just below and just above it.
        BigInteger third = power(2048).divide(THREE);
        due(2, third, THREE, third.multiply(THREE));
        due(2, third.add(ONE), THREE, four);
        due(6, HALF, HALF.add(ONE), four);
        due(6, HALF, HALF.subtract(ONE), power(2048).subtract(HALF));
        due(6, TOP, TOP.subtract(ONE), four);
        due(6, TOP, TWO, four);
        due(6, TOP, THREE, TOP);
        due(6, power(2047), THREE, four);
        due(6, power(2047), TWO, power(2047));
        due(6, power(2047), power(2046).multiply(THREE), four);
        due(6, power(2046), power(2045).multiply(THREE), power(2046).multiply(THREE));
    }

    private static void longModulus() {
        CHECK.sentence("-4: more than 256 BYTES would come (8: c has more than 128).");
        due(8, TWO, THREE, HALF.subtract(ONE), big(8));
        due(8, TWO, THREE, HALF, big(-4));
        due(8, TWO, THREE, HALF.add(ONE), big(-4));
        due(8, TWO, THREE, TOP, big(-4));
        due(8, NIL, NIL, HALF, big(-4));
        due(8, TOP, TOP, power(1023), TOP.modPow(TOP, power(1023)));
        due(8, TOP, power(512), HALF.subtract(ONE), TOP.modPow(power(512), HALF.subtract(ONE)));
        for (int what = 0; what < 8; what++) {
            due(what, THREE, TWO, TOP, big(new int[] {5, 1, 6, 1, 1, 1, 6, 1}[what]));
        }
    }

    private static void otherWhat() {
        CHECK.sentence("IllegalArgumentException: another what.");
        House h = new House().put(0, 0, 9).put(1, 3);
        for (int what : new int[] {Integer.MIN_VALUE, -1, 9, 10, Integer.MAX_VALUE}) {
            CHECK.dueArgument("what " + what, () -> h.seal.calc(what, 0, 1, 1, 0));
            CHECK.dueArgument("what " + what + ", by 0", () -> h.seal.calc(what, 0, 2, 2, 0));
        }
        CHECK.holds("nothing changed", h.has(0, House.bytes(0, 9)));
        CHECK.due("what 0", 1, h.seal.calc(0, 0, 1, 1, 2));
        CHECK.holds("what 0", h.has(2, big(12)));
        CHECK.due("what 8", 0, h.seal.calc(8, 0, 1, 1, 2));
        CHECK.due("what 8", 0, h.seal.size(2));
    }

    private static void dueOrder(BigInteger a, BigInteger b) {
        House h = new House().put(0, a).put(1, b);
        CHECK.due(brief(a) + " as " + brief(b), a.compareTo(b), h.seal.compare(0, 1));
        CHECK.due(brief(b) + " as " + brief(a), b.compareTo(a), h.seal.compare(1, 0));
    }

    private static void comparisons() {
        CHECK.sentence("The NUMBER of a as that of b: -1 below, 0 the same, 1 above.");
        for (int bits = 0; bits < 2048; bits += 7) {
            BigInteger number = power(bits);
            dueOrder(number.subtract(ONE), number);
            dueOrder(number, number);
            dueOrder(number.add(ONE), number);
        }
        dueOrder(NIL, TOP);
        dueOrder(TOP.subtract(ONE), TOP);
        dueOrder(TOP, TOP);
        House h = new House().put(0, new byte[256]).put(2, Model.join(new byte[255], House.bytes(5))).put(3, 5).put(4, 6);
        CHECK.due("256 0s and none", 0, h.seal.compare(0, 1));
        CHECK.due("none and 256 0s", 0, h.seal.compare(1, 0));
        CHECK.due("255 0s ahead of 5", 0, h.seal.compare(2, 3));
        CHECK.due("255 0s ahead of 5, and 6", -1, h.seal.compare(2, 4));
        CHECK.due("6, and 255 0s ahead of 5", 1, h.seal.compare(4, 2));
    }

    private static void bitLengths() {
        CHECK.sentence("The bits of a NUMBER (of 0 none).");
        House none = new House().put(1, 0).put(2, new byte[256]).put(3, 0, 1).put(4, Model.join(new byte[255],
                House.bytes(128)));
        CHECK.due("none", 0, none.seal.bits(0));
        CHECK.due("a 0", 0, none.seal.bits(1));
        CHECK.due("256 0s", 0, none.seal.bits(2));
        CHECK.due("1 behind a 0", 1, none.seal.bits(3));
        CHECK.due("128 behind 255 0s", 8, none.seal.bits(4));
        for (int bits = 1; bits < 2048; bits += bits < 70 || bits > 2030 ? 1 : 11) {
            House h = new House().put(0, power(bits).subtract(ONE)).put(1, power(bits)).put(2, power(bits).add(ONE));
            CHECK.due("one less than 2^" + bits, bits, h.seal.bits(0));
            CHECK.due("2^" + bits, bits + 1, h.seal.bits(1));
            CHECK.due("one more than 2^" + bits, bits + 1, h.seal.bits(2));
        }
        CHECK.due("the most", 2048, new House().put(0, TOP).seal.bits(0));
    }

    private static void dueProbable(String name, BigInteger number, boolean want) {
        CHECK.holds("the test's own, " + name, Model.isProbable(number) == want);
        CHECK.holds(name, new House().put(0, number).seal.probable(0) == want);
    }

    private static void longCandidates() {
        CHECK.sentence("PROBABLE: a NUMBER of at most 64 BYTES");
        dueProbable("the last prime of 64 bytes", LAST_PRIME, true);
        dueProbable("the first prime of 65 bytes", FIRST_LONG_PRIME, false);
        dueProbable("the first number of 65 bytes", power(512), false);
        dueProbable("the last number of 64 bytes", power(512).subtract(ONE), false);
        dueProbable("a prime of 521 bits", power(521).subtract(ONE), false);
        dueProbable("a prime of 1279 bits", power(1279).subtract(ONE), false);
        dueProbable("the highest number", TOP, false);
        House h = new House().put(0, Model.join(new byte[192], House.fewest(LAST_PRIME)));
        CHECK.holds("192 0s ahead of 64 bytes", h.seal.probable(0));
    }

    private static void firstPrimes() {
        CHECK.sentence("that is 2, 3, 5, .., 37 (the first twelve primes), or above 37, odd");
        for (int k = 0; k < 300; k++) {
            dueProbable("" + k, big(k), k > 1 && big(k).isProbablePrime(60));
        }
        for (int square : new int[] {37 * 37, 37 * 41, 41 * 41, 41 * 43}) {
            dueProbable("" + square, big(square), false);
        }
        House h = new House().put(1, 0, 0, 2).put(2, 0, 37).put(3, 0, 1).put(4, 0, 0);
        CHECK.holds("none", !h.seal.probable(0));
        CHECK.holds("2 behind 0s", h.seal.probable(1));
        CHECK.holds("37 behind a 0", h.seal.probable(2));
        CHECK.holds("1 behind a 0", !h.seal.probable(3));
        CHECK.holds("0s", !h.seal.probable(4));
    }

    private static void evenCandidates() {
        CHECK.sentence("or above 37, odd, and for each of these twelve");
        for (BigInteger prime : new BigInteger[] {big(41), big(65537), DECEIVER, LAST_PRIME}) {
            dueProbable(brief(prime), prime, true);
            dueProbable(brief(prime) + " less 1", prime.subtract(ONE), false);
            dueProbable(brief(prime) + " and 1", prime.add(ONE), false);
        }
        for (int bits = 6; bits <= 512; bits += 23) {
            dueProbable("2^" + bits, power(bits), false);
        }
    }

    private static void eachBase() {
        CHECK.sentence("for each of these twelve as base w");
        for (int k = 0; k < NumbersTest.BASES.length; k++) {
            dueProbable("found out by " + NumbersTest.BASES[k] + " alone", new BigInteger(NumbersTest.FOUND_OUT[k]), false);
        }
        CHECK.holds("the test's own, 41 finds it out", !new Powers(DECEIVER, 41).isDeceived());
        dueProbable("found out by 41 alone", DECEIVER, true);
        for (int base : NumbersTest.BASES) {
            dueProbable("divided by " + base, LONELY.shiftRight(40).nextProbablePrime().multiply(big(base)), false);
        }
    }

    private static void firstPower() {
        CHECK.sentence("w^t leaves 1 or NUMBER - 1");
        // With a single two below, t is all there is: 1 and NUMBER - 1 both come, for one base or another.
        for (BigInteger prime : new BigInteger[] {big(43), big(47), power(31).subtract(ONE), power(127).subtract(ONE)}) {
            CHECK.due("the test's own, " + brief(prime), 1, new Powers(prime, 2).twos());
            boolean one = false;
            boolean less = false;
            for (int base : NumbersTest.BASES) {
                Powers power = new Powers(prime, base);
                one |= power.first().equals(ONE);
                less |= power.first().equals(prime.subtract(ONE));
            }
            CHECK.holds("the test's own, both come for " + brief(prime), one && less);
            dueProbable(brief(prime), prime, true);
        }
    }

    private static void laterPowers() {
        CHECK.sentence("or one of w^(2 t), w^(4 t), .., w^(2^(s-1) t) leaves NUMBER - 1");
        BigInteger[] odds = {ONE, LONELY.shiftRight(400).setBit(0), LONELY.shiftRight(255).setBit(0)};
        for (int twos : new int[] {2, 3, 4, 16, 27, 28, 29, 55, 56, 57, 100, 255}) {
            for (BigInteger from : odds) {
                BigInteger prime = primeWithTwos(twos, from);
                CHECK.due("the test's own, " + brief(prime), twos, new Powers(prime, 2).twos());
                dueProbable(brief(prime) + " with " + twos + " twos", prime, true);
                dueProbable(brief(prime) + " squared", prime.multiply(prime), false);
            }
        }
        // Each power of these is 1 in the end, but 1 comes without NUMBER - 1 before it.
        for (long number : new long[] {252601, 294409, 399001, 410041, 488881}) {
            CHECK.holds("the test's own, " + number, big(2).modPow(big(number - 1), big(number)).equals(ONE));
            dueProbable("" + number, big(number), false);
        }
    }

    /** A prime of which s is told, with an odd t from this one on, and NUMBER - 1 among the last of its powers. */
    private static BigInteger primeWithTwos(int twos, BigInteger from) {
        BigInteger odd = from;
        BigInteger prime = odd.shiftLeft(twos).add(ONE);
        while (!prime.isProbablePrime(60) || !isReachedLast(prime)) {
            odd = odd.add(TWO);
            prime = odd.shiftLeft(twos).add(ONE);
        }
        return prime;
    }

    /** Whether NUMBER - 1 comes for some base at the last of these powers and not before. */
    private static boolean isReachedLast(BigInteger prime) {
        for (int base : NumbersTest.BASES) {
            Powers power = new Powers(prime, base);
            if (power.placeOfLess() == power.twos() - 1) {
                return true;
            }
        }
        return false;
    }

    private static void dueNext(BigInteger from, BigInteger want) {
        House h = used().put(0, from).put(1, 0, 9);
        CHECK.due("behind " + brief(from), House.fewest(want).length, h.seal.next(0, 1));
        CHECK.holds("behind " + brief(from), h.has(1, want));
    }

    private static void dueNoNext(int want, BigInteger from) {
        House h = used().put(0, from).put(1, 0, 9);
        CHECK.due("behind " + brief(from), want, h.seal.next(0, 1));
        CHECK.holds("nothing changed", h.has(1, House.bytes(0, 9)));
    }

    private static void nextAbove() {
        CHECK.sentence("NEXT of a NUMBER: the least PROBABLE one above it");
        int[] primes = {2, 3, 5, 7, 11, 13, 17, 19, 23, 29, 31, 37, 41, 43, 47, 53};
        for (int k = 0; k < 53; k++) {
            int above = 0;
            while (primes[above] <= k) {
                above++;
            }
            dueNext(big(k), big(primes[above]));
        }
        for (int bits = 8; bits < 512; bits += 4) {
            BigInteger prime = power(bits).nextProbablePrime();
            dueNext(prime.subtract(TWO), prime);
            dueNext(prime.subtract(ONE), prime);
            dueNext(prime, prime.nextProbablePrime());
            dueNext(power(bits).subtract(ONE), prime);
        }
        dueNext(DECEIVER.subtract(ONE), DECEIVER);
        dueNext(DECEIVER, DECEIVER.nextProbablePrime());
    }

    private static void nextAmong() {
        CHECK.sentence("if it is among the 2,000 NUMBERS behind it");
        BigInteger next = LONELY.add(big(LONELY_GAP));
        CHECK.holds("the test's own", Model.isProbable(LONELY) && Model.isProbable(next));
        dueNext(next.subtract(big(1)), next);
        dueNext(next.subtract(big(1999)), next);
        dueNext(next.subtract(big(2000)), next);
        dueNoNext(-1, next.subtract(big(2001)));
        dueNoNext(-1, next.subtract(big(2002)));
        dueNoNext(-1, LONELY);
        dueNext(LONELY.subtract(ONE), LONELY);
    }

    private static void nextNone() {
        CHECK.sentence("NONE: there is none");
        dueNext(LAST_PRIME.subtract(ONE), LAST_PRIME);
        dueNoNext(-1, LAST_PRIME);
        dueNoNext(-1, LAST_PRIME.add(ONE));
        dueNoNext(-1, power(512).subtract(TWO));
        dueNoNext(-1, power(512).subtract(ONE));
    }

    private static void nextTooLong() {
        CHECK.sentence("-4: the told NUMBER has more than 64 BYTES.");
        dueNoNext(-1, power(512).subtract(ONE));
        dueNoNext(-4, power(512));
        dueNoNext(-4, power(512).add(ONE));
        dueNoNext(-4, TOP);
        House h = new House().put(0, Model.join(new byte[192], House.fewest(LAST_PRIME.subtract(ONE))));
        CHECK.due("192 0s ahead of 64 bytes", 64, h.seal.next(0, 1));
        CHECK.holds("192 0s ahead of 64 bytes", h.has(1, LAST_PRIME));
        h.put(0, new byte[256]);
        CHECK.due("256 0s", 1, h.seal.next(0, 1));
        CHECK.holds("256 0s", h.has(1, TWO));
    }
}
