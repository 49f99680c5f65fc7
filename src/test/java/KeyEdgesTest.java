import java.math.BigInteger;

/** Each sentence of terms 4 and of promises 16 to 19 and 28 that names an edge, at the edge and on both its sides. */
final class KeyEdgesTest {
    private static final Check CHECK = new Check();
    private static final BigInteger NIL = BigInteger.ZERO;
    private static final BigInteger ONE = BigInteger.ONE;
    private static final BigInteger TWO = BigInteger.TWO;
    private static final BigInteger THREE = big(3);
    private static final BigInteger TOP = power(2048).subtract(ONE);
    /** The last two primes of four bytes. 5 divides the first less 1 and not the other, 7 the other and not the first. */
    private static final BigInteger P = big(4294967291L);
    private static final BigInteger Q = big(4294967279L);
    private static final BigInteger N = P.multiply(Q);
    /** The last prime of 64 bytes. */
    private static final BigInteger LAST_PRIME = power(512).subtract(big(569));
    /** What deceives the twelve bases, and its divisors. */
    private static final BigInteger DECEIVER = new BigInteger("318665857834031151167461");
    private static final BigInteger DECEIVER_P = big(399165290221L);
    private static final BigInteger DECEIVER_Q = big(798330580441L);
    private static final int[] FAR = {Integer.MIN_VALUE, Integer.MAX_VALUE};

    public static void main(String[] args) {
        shortModulus();
        longModulus();
        notProbable();
        isTwo();
        oneAndTheSame();
        commonDivisor();
        exponents();
        exponentsBelowN();
        noLowering();
        sixteen();
        firstRefusal();
        keyNumbers();
        lowestPower();
        least();
        openLengths();
        openExponents();
        openEven();
        openSixteen();
        openOrder();
        lengthOfModulus();
        putLengths();
        partsOfWhole();
        partsOfOpen();
        otherPart();
        notBelow();
        openTurn();
        otherHow();
        howMany();
        CHECK.end();
    }

    private static BigInteger power(int bits) {
        return BigInteger.TWO.pow(bits);
    }

    private static BigInteger big(long value) {
        return BigInteger.valueOf(value);
    }

    private static String brief(BigInteger number) {
        return number.bitLength() < 100 ? number.toString() : "0x" + number.toString(16);
    }

    private static void due(int want, BigInteger p, BigInteger q, BigInteger e) {
        House h = new House().put(0, p).put(1, q).put(2, e);
        String name = "of " + brief(p) + ", " + brief(q) + ", " + brief(e);
        CHECK.due(name, want, h.seal.key(0, 1, 2));
        CHECK.due(name + ": how many there are", want < 0 ? 0 : 1, h.seal.keys());
    }

    private static void dueBoth(int want, BigInteger p, BigInteger q, BigInteger e) {
        due(want, p, q, e);
        due(want, q, p, e);
    }

    private static BigInteger primeBelow(BigInteger number) {
        BigInteger prime = number.subtract(ONE);
        while (!prime.isProbablePrime(60)) {
            prime = prime.subtract(ONE);
        }
        return prime;
    }

    /** An exponent that goes with both primes. */
    private static BigInteger exponentOf(BigInteger p, BigInteger q) {
        BigInteger e = THREE;
        while (!e.gcd(p.subtract(ONE)).equals(ONE) || !e.gcd(q.subtract(ONE)).equals(ONE)) {
            e = e.add(TWO);
        }
        return e;
    }

    private static void shortModulus() {
        CHECK.sentence("-1 n = p * q has less than 8 or more than 128 BYTES");
        // The products with 3 of the primes on both sides of 2^56 / 3.
        BigInteger below = primeBelow(power(56).divide(THREE).add(ONE));
        BigInteger above = power(56).divide(THREE).nextProbablePrime();
        CHECK.due("the test's own", 7, House.fewest(below.multiply(THREE)).length);
        CHECK.due("the test's own", 8, House.fewest(above.multiply(THREE)).length);
        dueBoth(-1, THREE, below, exponentOf(THREE, below));
        dueBoth(0, THREE, above, exponentOf(THREE, above));
        BigInteger low = primeBelow(power(28));
        BigInteger high = power(28).nextProbablePrime();
        dueBoth(-1, low, primeBelow(low), exponentOf(low, primeBelow(low)));
        dueBoth(0, high, high.nextProbablePrime(), exponentOf(high, high.nextProbablePrime()));
        dueBoth(-1, NIL, P, THREE);
        dueBoth(-1, NIL, NIL, THREE);
        dueBoth(-1, ONE, ONE, THREE);
        dueBoth(-1, ONE, power(56).subtract(ONE), THREE);
        dueBoth(-2, ONE, power(56), THREE);
        dueBoth(-1, NIL, TOP, THREE);
    }

    private static void longModulus() {
        CHECK.sentence("n = p * q has less than 8 or more than 128 BYTES");
        BigInteger other = primeBelow(LAST_PRIME);
        CHECK.due("the test's own", 1024, LAST_PRIME.multiply(other).bitLength());
        dueBoth(0, LAST_PRIME, other, exponentOf(LAST_PRIME, other));
        dueBoth(-2, power(512).subtract(ONE), power(512).add(ONE), THREE);
        dueBoth(-1, power(512), power(512), THREE);
        dueBoth(-2, ONE, power(1024).subtract(ONE), THREE);
        dueBoth(-1, ONE, power(1024), THREE);
        dueBoth(-1, ONE, power(1024).add(ONE), THREE);
        BigInteger longer = power(512).nextProbablePrime();
        dueBoth(-1, longer, longer.nextProbablePrime(), THREE);
        dueBoth(-1, power(1024), power(1024).subtract(ONE), THREE);
        dueBoth(-1, power(1024), power(1024), THREE);
        dueBoth(-1, TOP, ONE, THREE);
        dueBoth(-1, TOP, TWO, THREE);
        dueBoth(-1, TOP, TOP, THREE);
    }

    private static void notProbable() {
        CHECK.sentence("-2 p or q is not PROBABLE");
        dueBoth(0, P, Q, THREE);
        for (int step : new int[] {-2, -1, 1, 2}) {
            dueBoth(-2, P.add(big(step)), Q, THREE);
            due(-2, P.add(big(step)), Q.add(ONE), THREE);
        }
        dueBoth(-2, ONE, power(60).nextProbablePrime(), THREE);
        dueBoth(-2, big(37 * 41), power(60).nextProbablePrime(), THREE);
        BigInteger longer = power(512).nextProbablePrime();
        CHECK.holds("the test's own", longer.isProbablePrime(60) && longer.bitLength() == 513);
        dueBoth(-2, longer, P, THREE);
        dueBoth(-2, longer, LAST_PRIME, THREE);
        dueBoth(0, LAST_PRIME, P, exponentOf(LAST_PRIME, P));
        dueBoth(0, DECEIVER, Q, exponentOf(DECEIVER, Q));
    }

    private static void isTwo() {
        CHECK.sentence("-2 p or q is not PROBABLE, or is 2");
        BigInteger longer = power(60).nextProbablePrime();
        dueBoth(-2, ONE, longer, THREE);
        dueBoth(-2, TWO, longer, THREE);
        dueBoth(0, THREE, longer, exponentOf(THREE, longer));
        dueBoth(-2, big(4), longer, THREE);
        dueBoth(0, big(5), longer, exponentOf(big(5), longer));
        dueBoth(0, big(37), longer, exponentOf(big(37), longer));
        dueBoth(0, big(41), longer, exponentOf(big(41), longer));
    }

    private static void oneAndTheSame() {
        CHECK.sentence("-3 p is q");
        due(-3, P, P, THREE);
        due(-3, LAST_PRIME, LAST_PRIME, THREE);
        due(-3, DECEIVER, DECEIVER, THREE);
        dueBoth(0, P, Q, THREE);
        BigInteger near = P.nextProbablePrime();
        dueBoth(0, P, near, exponentOf(P, near));
        House h = new House().put(0, P).put(1, 0, 0, 255, 255, 255, 251).put(2, 3);
        CHECK.due("with 0s ahead", -3, h.seal.key(0, 1, 2));
        CHECK.due("one slot for both", -3, h.seal.key(0, 0, 2));
    }

    private static void commonDivisor() {
        CHECK.sentence("-3 p is q, or they have a divisor above 1 in common");
        CHECK.holds("the test's own", DECEIVER_P.multiply(DECEIVER_Q).equals(DECEIVER));
        dueBoth(-3, DECEIVER, DECEIVER_P, big(7));
        dueBoth(-3, DECEIVER, DECEIVER_Q, big(7));
        BigInteger near = DECEIVER_P.nextProbablePrime();
        dueBoth(0, DECEIVER, near, exponentOf(DECEIVER, near));
        dueBoth(0, DECEIVER_P, DECEIVER_Q, exponentOf(DECEIVER_P, DECEIVER_Q));
    }

    private static void exponents() {
        CHECK.sentence("-4 e is even or below 3");
        for (int e = 0; e <= 8; e++) {
            dueBoth(e % 2 == 0 || e < 3 ? -4 : e == 3 ? 0 : -5, P, Q, big(e));
        }
        dueBoth(-4, P, Q, N.subtract(THREE));
        dueBoth(-4, P, Q, power(28));
        dueBoth(0, P, Q, power(28).add(THREE));
        House h = new House().put(0, P).put(1, Q).put(3, 0, 0, 1).put(4, new byte[256]).put(5, 0, 0, 3);
        CHECK.due("none", -4, h.seal.key(0, 1, 2));
        CHECK.due("1 behind 0s", -4, h.seal.key(0, 1, 3));
        CHECK.due("256 0s", -4, h.seal.key(0, 1, 4));
        CHECK.due("3 behind 0s", 0, h.seal.key(0, 1, 5));
    }

    private static void exponentsBelowN() {
        CHECK.sentence("-4 e is even or below 3 or not below n");
        dueBoth(0, P, Q, N.subtract(TWO));
        dueBoth(-4, P, Q, N.subtract(ONE));
        dueBoth(-4, P, Q, N);
        dueBoth(-4, P, Q, N.add(ONE));
        dueBoth(-4, P, Q, N.add(TWO));
        dueBoth(-4, P, Q, power(64).add(ONE));
        dueBoth(-4, P, Q, TOP);
        House h = new House().put(0, P).put(1, Q).put(2, N.subtract(TWO));
        CHECK.due("an e of just below n", 0, h.seal.key(0, 1, 2));
        CHECK.due("its e", 8, h.seal.part(0, 1, 3));
        CHECK.holds("its e", h.has(3, N.subtract(TWO)));
        h.seal.part(0, 2, 3);
        BigInteger lcm = Model.lcm(P.subtract(ONE), Q.subtract(ONE));
        CHECK.holds("its d", h.has(3, N.subtract(TWO).modInverse(lcm)));
    }

    private static void noLowering() {
        CHECK.sentence("-5 e has a divisor above 1 in common with p - 1 or q - 1");
        BigInteger lessP = P.subtract(ONE);
        BigInteger lessQ = Q.subtract(ONE);
        CHECK.holds("the test's own, 5", lessP.gcd(big(105)).equals(big(5)));
        CHECK.holds("the test's own, 7", lessQ.gcd(big(105)).equals(big(7)));
        for (int factor : new int[] {1, 3, 5, 7, 9}) {
            dueBoth(-5, P, Q, big(5L * factor));
            dueBoth(-5, P, Q, big(7L * factor));
        }
        dueBoth(0, P, Q, THREE);
        dueBoth(0, P, Q, big(9));
        dueBoth(-5, P, Q, lessP.shiftRight(1));
        dueBoth(-5, P, Q, lessQ.shiftRight(1));
        dueBoth(-5, P, Q, lessP.shiftRight(1).divide(big(5)));
        // To have a divisor in common with p or q itself is no hindrance.
        dueBoth(0, P, Q, P);
        dueBoth(0, P, Q, Q);
    }

    /** A house with so many keys, every third of them open; P, Q, 3 and N are in slots 0 to 3. */
    private static House withKeys(int count) {
        House h = new House().put(0, P).put(1, Q).put(2, 3).put(3, N);
        for (int k = 0; k < count; k++) {
            CHECK.due("key " + k, k, k % 3 == 2 ? h.seal.open(3, 2) : h.seal.key(0, 1, 2));
        }
        return h;
    }

    private static void sixteen() {
        CHECK.sentence("-6 there are 16.");
        for (int count : new int[] {0, 1, 14, 15}) {
            CHECK.due("one more than " + count, count, withKeys(count).seal.key(0, 1, 2));
            CHECK.due("one open more than " + count, count, withKeys(count).seal.open(3, 2));
        }
        House h = withKeys(16);
        for (int k = 0; k < 3; k++) {
            CHECK.due("the 17th", -6, h.seal.key(0, 1, 2));
            CHECK.due("the 17th, open", -6, h.seal.open(3, 2));
        }
        CHECK.due("there are 16", 16, h.seal.keys());
        CHECK.due("the last one turns", 8, h.seal.turn(15, 1, 2, 4));
        CHECK.holds("the last one turns", h.has(4, House.sized(THREE.modPow(THREE.modInverse(
                Model.lcm(P.subtract(ONE), Q.subtract(ONE))), N), 8)));
        CHECK.dueIndex("there is no 17th", () -> h.seal.turn(16, 0, 2, 4));
    }

    private static void keyNumbers() {
        CHECK.sentence("KEYS, at most 16.");
        House h = new House().put(2, 3);
        Keys[] all = new Keys[17];
        for (int k = 0; k < all.length; k++) {
            all[k] = new Keys(57 + k, 17, k);
            CHECK.due("key " + k, k < 16 ? k : -6, all[k].whole(h));
        }
        for (int k = 0; k < 16; k++) {
            CHECK.due("n of key " + k, all[k].length(), h.seal.part(k, 0, 3));
            CHECK.holds("n of key " + k, h.has(3, all[k].n));
        }
        CHECK.dueIndex("there is no 17th", () -> h.seal.part(16, 0, 3));
    }

    private static void firstRefusal() {
        CHECK.sentence("the first of these that is refuses it");
        dueBoth(-1, big(4), big(9), THREE);
        dueBoth(-1, THREE, THREE, THREE);
        dueBoth(-1, THREE, big(5), TWO);
        dueBoth(-1, big(7), big(13), THREE);
        dueBoth(-2, P.subtract(ONE), P.subtract(ONE), THREE);
        dueBoth(-2, TWO, power(63), THREE);
        dueBoth(-2, P.subtract(ONE), Q, TWO);
        dueBoth(-2, P.subtract(ONE), Q, big(5));
        due(-3, P, P, TWO);
        due(-3, P, P, big(5));
        dueBoth(-3, DECEIVER, DECEIVER_P, NIL);
        dueBoth(-4, P, Q, big(10));
        dueBoth(-4, P, Q, P.subtract(ONE));
        dueBoth(-4, P, Q, N.add(TWO).multiply(big(5)));
        House h = withKeys(16).put(4, P.subtract(ONE)).put(5, 5).put(6, 10);
        CHECK.due("-1 before -6", -1, h.seal.key(2, 2, 2));
        CHECK.due("-2 before -6", -2, h.seal.key(4, 4, 6));
        CHECK.due("-3 before -6", -3, h.seal.key(0, 0, 6));
        CHECK.due("-4 before -6", -4, h.seal.key(0, 1, 6));
        CHECK.due("-5 before -6", -5, h.seal.key(0, 1, 5));
        CHECK.due("-6", -6, h.seal.key(0, 1, 2));
    }

    private static void lowestPower() {
        CHECK.sentence("d is the inverse of e by the least common multiple of p - 1 and q - 1");
        // 2^16 + 1 less 1 divides the other prime less 1, so that the least common multiple is far below their product.
        BigInteger p = big(65537);
        BigInteger q = power(50);
        while (!q.add(ONE).isProbablePrime(60)) {
            q = q.add(power(16));
        }
        q = q.add(ONE);
        for (int e : new int[] {3, 5, 7, 9, 11, 13}) {
            if (big(e).gcd(q.subtract(ONE)).equals(ONE)) {
                dueParts(p, q, big(e));
                dueParts(q, p, big(e));
            }
        }
        // An e of one more than that is 1 by it: the least d there is.
        BigInteger e = q;
        dueParts(p, q, e);
        House h = new House().put(0, p).put(1, q).put(2, e).put(3, 5);
        CHECK.due("e of which d is 1", 0, h.seal.key(0, 1, 2));
        CHECK.due("d", 1, h.seal.part(0, 2, 4));
        CHECK.holds("d is 1", h.has(4, ONE));
        CHECK.due("lowered by it", 9, h.seal.turn(0, 1, 3, 4));
        CHECK.holds("lowered by it", h.has(4, House.bytes(0, 0, 0, 0, 0, 0, 0, 0, 5)));
    }

    /** With the least p a rest by p - 1 is 1, and an inverse by p is 1 or 2. */
    private static void least() {
        CHECK.sentence("dp, dq the rests of d by p - 1, q - 1; qi the inverse of q by p.");
        BigInteger q = power(60).nextProbablePrime();
        for (int k = 0; k < 4; k++) {
            dueParts(THREE, q, exponentOf(THREE, q));
            dueParts(q, THREE, exponentOf(THREE, q));
            q = q.nextProbablePrime();
        }
        dueParts(P, Q, THREE);
        dueParts(P, Q, N.subtract(TWO));
    }

    private static void dueParts(BigInteger p, BigInteger q, BigInteger e) {
        House h = new House().put(0, p).put(1, q).put(2, e);
        CHECK.due("of " + p + ", " + q, 0, h.seal.key(0, 1, 2));
        BigInteger lessP = p.subtract(ONE);
        BigInteger lessQ = q.subtract(ONE);
        BigInteger d = e.modInverse(Model.lcm(lessP, lessQ));
        BigInteger[] want = {p.multiply(q), e, d, p, q, d.mod(lessP), d.mod(lessQ), q.modInverse(p)};
        for (int what = 0; what < 8; what++) {
            CHECK.due("part " + what, House.fewest(want[what]).length, h.seal.part(0, what, 3));
            CHECK.holds("part " + what + " of " + p + ", " + q, h.has(3, want[what]));
        }
    }

    private static void dueOpen(int want, BigInteger n, BigInteger e) {
        House h = new House().put(0, n).put(1, e);
        String name = "open of " + brief(n) + ", " + brief(e);
        CHECK.due(name, want, h.seal.open(0, 1));
        CHECK.due(name + ": how many there are", want < 0 ? 0 : 1, h.seal.keys());
    }

    private static void openLengths() {
        CHECK.sentence("An open one is made of n and e alone: -1 likewise");
        dueOpen(-1, NIL, THREE);
        dueOpen(-1, ONE, THREE);
        dueOpen(-1, power(55).add(ONE), THREE);
        dueOpen(-1, power(56).subtract(ONE), THREE);
        dueOpen(0, power(56).add(ONE), THREE);
        dueOpen(0, power(1023).add(ONE), THREE);
        dueOpen(0, power(1024).subtract(ONE), THREE);
        dueOpen(-1, power(1024).add(ONE), THREE);
        dueOpen(-1, TOP, THREE);
        House h = new House().put(0, Model.join(new byte[128], House.times(255, 128))).put(1, 3)
                .put(2, Model.join(new byte[249], House.times(255, 7)));
        CHECK.due("128 bytes behind 0s", 0, h.seal.open(0, 1));
        CHECK.due("7 bytes behind 0s", -1, h.seal.open(2, 1));
    }

    private static void openExponents() {
        CHECK.sentence("-4 likewise");
        BigInteger n = power(56).add(ONE);
        for (int e = 0; e <= 8; e++) {
            dueOpen(e % 2 == 0 || e < 3 ? -4 : 0, n, big(e));
        }
        dueOpen(0, n, n.subtract(TWO));
        dueOpen(-4, n, n.subtract(ONE));
        dueOpen(-4, n, n);
        dueOpen(-4, n, n.add(ONE));
        dueOpen(-4, n, n.add(TWO));
        dueOpen(-4, n, TOP);
    }

    private static void openEven() {
        CHECK.sentence("-4 likewise, or n is even");
        dueOpen(-4, power(56), THREE);
        dueOpen(0, power(56).add(ONE), THREE);
        dueOpen(-4, power(56).add(TWO), THREE);
        dueOpen(-4, power(1024).subtract(TWO), THREE);
        dueOpen(0, power(1024).subtract(ONE), THREE);
    }

    private static void openSixteen() {
        CHECK.sentence("-4 likewise, or n is even; -6.");
        House h = withKeys(15);
        CHECK.due("the 16th", 15, h.seal.open(3, 2));
        CHECK.due("the 17th", -6, h.seal.open(3, 2));
        CHECK.due("the 17th, whole", -6, h.seal.key(0, 1, 2));
        CHECK.due("there are 16", 16, h.seal.keys());
    }

    private static void openOrder() {
        CHECK.sentence("An open one is made of n and e alone: -1 likewise; -4 likewise, or n is even; -6.");
        dueOpen(-1, power(55), THREE);
        dueOpen(-1, power(55), TWO);
        dueOpen(-1, power(1024), TWO);
        House h = withKeys(16).put(4, power(55)).put(5, power(56)).put(6, 4);
        CHECK.due("-1 before -6", -1, h.seal.open(4, 2));
        CHECK.due("-4 before -6", -4, h.seal.open(5, 2));
        CHECK.due("-4 for e before -6", -4, h.seal.open(3, 6));
        CHECK.due("-6", -6, h.seal.open(3, 2));
    }

    private static void lengthOfModulus() {
        CHECK.sentence("K is the length of n in BYTES.");
        for (int k = 8; k < 128; k++) {
            House h = new House().put(0, power(8 * k).subtract(ONE)).put(1, power(8 * k).add(ONE)).put(2, 3);
            h.seal.open(0, 2);
            h.seal.open(1, 2);
            CHECK.due("the last of " + k, k, h.seal.turn(0, 0, 2, 3));
            CHECK.due("the first of more than " + k, k + 1, h.seal.turn(1, 0, 2, 3));
        }
        House h = new House().put(0, power(56).add(ONE)).put(1, power(1024).subtract(ONE)).put(2, 3);
        h.seal.open(0, 2);
        h.seal.open(1, 2);
        CHECK.due("the least", 8, h.seal.turn(0, 0, 2, 3));
        CHECK.due("the most", 128, h.seal.turn(1, 0, 2, 3));
    }

    private static void putLengths() {
        CHECK.sentence("Both are put with K BYTES.");
        Keys[] all = {new Keys(57, 17, 1), new Keys(64, 17, 1), new Keys(65, 17, 1), new Keys(1017, 17, 1),
            new Keys(1024, 17, 1)};
        for (Keys key : all) {
            House h = new House();
            key.whole(h);
            int k = key.length();
            for (BigInteger number : new BigInteger[] {NIL, ONE, TWO, key.p, key.q, key.n.subtract(ONE)}) {
                h.put(0, number);
                CHECK.due("raised", k, h.seal.turn(0, 0, 0, 1));
                CHECK.holds(number + " raised", h.has(1, key.raised(House.fewest(number))));
                CHECK.due("lowered", k, h.seal.turn(0, 1, 0, 1));
                CHECK.holds(number + " lowered", h.has(1, key.lowered(House.fewest(number))));
            }
        }
    }

    private static void partsOfWhole() {
        CHECK.sentence("Of a KEY n (0), e (1), d (2), p (3), q (4), dp (5), dq (6), qi (7) comes to a SLOT: how many BYTES");
        for (Keys key : new Keys[] {new Keys(57, 17, 3), new Keys(64, 65537, 3), new Keys(1024, 65537, 3)}) {
            House h = new House();
            key.whole(h);
            for (int what = 0; what < 8; what++) {
                CHECK.due("part " + what, House.fewest(key.parts()[what]).length, h.seal.part(0, what, 3));
                CHECK.holds("part " + what, h.has(3, key.parts()[what]));
            }
        }
    }

    private static void partsOfOpen() {
        CHECK.sentence("-2: it is open, and has none such.");
        House h = new House().put(0, N).put(1, 3).put(2, 0, 9);
        h.seal.open(0, 1);
        for (int what = 2; what < 8; what++) {
            CHECK.due("part " + what, -2, h.seal.part(0, what, 2));
        }
        CHECK.holds("nothing changed", h.has(2, House.bytes(0, 9)));
        CHECK.due("e", 1, h.seal.part(0, 1, 2));
        CHECK.holds("e", h.has(2, THREE));
        CHECK.due("n", 8, h.seal.part(0, 0, 2));
        CHECK.holds("n", h.has(2, N));
    }

    private static void otherPart() {
        CHECK.sentence("IllegalArgumentException: no such what.");
        House h = withKeys(3).put(4, 0, 9);
        for (int key = 0; key < 3; key++) {
            int told = key;
            for (int what : new int[] {-2, -1, 8, 9, FAR[0], FAR[1]}) {
                CHECK.dueArgument("part " + what + " of key " + key, () -> h.seal.part(told, what, 4));
            }
            CHECK.holds("nothing changed", h.has(4, House.bytes(0, 9)));
            CHECK.due("part 0", 8, h.seal.part(key, 0, 5));
            CHECK.due("part 7", key == 2 ? -2 : House.fewest(Q.modInverse(P)).length, h.seal.part(key, 7, 5));
        }
    }

    private static void notBelow() {
        CHECK.sentence("-1: it is not below n");
        for (Keys key : new Keys[] {new Keys(57, 17, 5), new Keys(64, 17, 5), new Keys(1024, 17, 5)}) {
            House h = new House().put(0, key.n.subtract(ONE)).put(1, key.n).put(2, key.n.add(ONE)).put(3, TOP)
                    .put(4, Model.join(new byte[64], House.fewest(key.n.subtract(ONE))))
                    .put(5, Model.join(new byte[64], House.fewest(key.n))).put(6, 0, 9);
            key.whole(h);
            for (int how = 0; how < 2; how++) {
                for (int slot : new int[] {1, 2, 3, 5}) {
                    CHECK.due("how " + how + ", slot " + slot, -1, h.seal.turn(0, how, slot, 6));
                }
                CHECK.holds("nothing changed", h.has(6, House.bytes(0, 9)));
                CHECK.due("n less 1", key.length(), h.seal.turn(0, how, 0, 7));
                CHECK.holds("n less 1", h.has(7, key.n.subtract(ONE)));
                CHECK.due("n less 1, behind 0s", key.length(), h.seal.turn(0, how, 4, 7));
                CHECK.holds("n less 1, behind 0s", h.has(7, key.n.subtract(ONE)));
            }
        }
    }

    private static void openTurn() {
        CHECK.sentence("-2: the KEY is open (how 1; this first).");
        House h = new House().put(0, N).put(1, 3).put(2, N.subtract(ONE)).put(3, 0, 9);
        h.seal.open(0, 1);
        CHECK.due("lowered", -2, h.seal.turn(0, 1, 2, 3));
        CHECK.due("none lowered", -2, h.seal.turn(0, 1, 9, 3));
        CHECK.due("n lowered: -2 before -1", -2, h.seal.turn(0, 1, 0, 3));
        CHECK.due("n raised", -1, h.seal.turn(0, 0, 0, 3));
        CHECK.holds("nothing changed", h.has(3, House.bytes(0, 9)));
        CHECK.due("raised", 8, h.seal.turn(0, 0, 2, 3));
        CHECK.holds("raised", h.has(3, N.subtract(ONE)));
    }

    private static void otherHow() {
        CHECK.sentence("IllegalArgumentException: another how.");
        House h = withKeys(3).put(4, 0, 9);
        for (int key = 0; key < 3; key++) {
            int told = key;
            for (int how : new int[] {-2, -1, 2, 3, FAR[0], FAR[1]}) {
                CHECK.dueArgument("how " + how, () -> h.seal.turn(told, how, 2, 4));
                CHECK.dueArgument("how " + how + " of n", () -> h.seal.turn(told, how, 3, 4));
            }
            CHECK.holds("nothing changed", h.has(4, House.bytes(0, 9)));
            CHECK.due("how 0", 8, h.seal.turn(key, 0, 2, 5));
            CHECK.due("how 1", key == 2 ? -2 : 8, h.seal.turn(key, 1, 2, 5));
        }
    }

    private static void howMany() {
        CHECK.sentence("How many KEYS there are.");
        SealHouse x = new SealHouse();
        CHECK.due("at first", 0, x.keys());
        CHECK.due("refused", -1, x.key(0, 0, 0));
        CHECK.due("refused", -1, x.open(0, 0));
        CHECK.due("after refused ones", 0, x.keys());
        for (int count = 1; count <= 16; count++) {
            CHECK.due("so many", count, withKeys(count).seal.keys());
        }
    }
}
