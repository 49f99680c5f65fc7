import java.math.BigInteger;
import java.util.Random;

/** Promises 16 to 19 and 28: key, open, part, turn, keys. */
final class KeysTest {
    private static final Check CHECK = new Check();
    private static final BigInteger ONE = BigInteger.ONE;
    /** The least number that deceives all twelve bases, and its two divisors. */
    private static final BigInteger FALSE_PRIME = big("318665857834031151167461");
    private static final BigInteger FALSE_P = big("399165290221");
    private static final BigInteger FALSE_Q = big("798330580441");

    public static void main(String[] args) {
        keyRefused();
        keyOrder();
        keyWrong();
        parts();
        partsOfAll();
        open();
        openParts();
        sixteen();
        turn();
        turnAll();
        turnFalsePrimes();
        keyKeepsItsOwn();
        CHECK.end();
    }

    private static BigInteger big(String digits) {
        return new BigInteger(digits);
    }

    private static BigInteger big(long value) {
        return BigInteger.valueOf(value);
    }

    private static BigInteger power(int bits) {
        return BigInteger.TWO.pow(bits);
    }

    private static void due(int want, BigInteger p, BigInteger q, BigInteger e) {
        House h = new House().put(0, p).put(1, q).put(2, e);
        CHECK.due("16: of " + p + ", " + q + ", " + e, want, h.seal.key(0, 1, 2));
        CHECK.due("28: after " + p + ", " + q + ", " + e, want < 0 ? 0 : 1, h.seal.keys());
    }

    private static void keyRefused() {
        BigInteger p = big(4294967291L);
        BigInteger q = big(4294967279L);
        due(0, p, q, big(3));
        due(0, q, p, big(3));
        due(-1, big(3), big(5), big(3));
        due(-1, BigInteger.ZERO, p, big(3));
        due(-1, p, big(16777213), big(3));
        due(0, p, big(16777259), big(65537));
        BigInteger most = power(512).subtract(big(569));
        BigInteger other = power(511).nextProbablePrime();
        due(0, most, other, big(65537));
        due(-1, power(513).subtract(ONE), power(512).subtract(ONE), big(3));
        due(-1, power(2048).subtract(ONE), power(2048).subtract(ONE), big(3));
        due(-1, power(1024), ONE, big(3));
        due(-2, power(1023), ONE, big(3));
        due(-2, p, q.add(big(2)), big(3));
        due(-2, p.subtract(big(2)), q, big(3));
        due(-2, big(2), power(63).nextProbablePrime(), big(3));
        due(-2, power(63).nextProbablePrime(), big(2), big(3));
        due(-2, power(512).add(big(75)), p, big(3));
        due(-2, ONE, power(64).nextProbablePrime(), big(3));
        due(-3, p, p, big(3));
        due(-3, FALSE_PRIME, FALSE_P, big(7));
        due(-3, FALSE_Q, FALSE_PRIME, big(7));
        due(-4, p, q, big(4));
        due(-4, p, q, ONE);
        due(-4, p, q, BigInteger.ZERO);
        due(-4, p, q, big(2));
        due(-4, p, q, p.multiply(q));
        due(-4, p, q, p.multiply(q).add(big(2)));
        due(-4, p, q, power(2047).add(ONE));
        due(-5, p, q, big(5));
        due(-5, q, p, big(5));
        due(-5, p, q, p.subtract(ONE).shiftRight(1));
        due(-5, p, q, q.subtract(ONE).shiftRight(1));
        due(0, p, q, p.multiply(q).subtract(big(2)));
        due(0, big(3), power(64).nextProbablePrime(), big(5));
    }

    /** What is refused for two reasons is refused for the first of them. */
    private static void keyOrder() {
        BigInteger p = big(4294967291L);
        due(-1, big(4), big(4), big(4));
        due(-2, p.subtract(ONE), p.subtract(ONE), big(4));
        due(-2, FALSE_P.multiply(big(3)), FALSE_P, big(4));
        due(-3, p, p, big(4));
        due(-3, p, p, big(5));
        due(-4, p, big(4294967279L), p.subtract(ONE));
        House h = full();
        h.put(0, p).put(1, p).put(2, 5).put(3, big(4294967279L)).put(4, 4).put(5, 3);
        CHECK.due("16: -3 before -6", -3, h.seal.key(0, 1, 2));
        CHECK.due("16: -4 before -6", -4, h.seal.key(0, 3, 4));
        CHECK.due("16: -5 before -6", -5, h.seal.key(0, 3, 2));
        CHECK.due("16: -6", -6, h.seal.key(0, 3, 5));
        CHECK.due("17: -1 before -6", -1, h.seal.open(0, 5));
        h.put(6, power(63)).put(7, power(63).add(ONE));
        CHECK.due("17: -4 before -6", -4, h.seal.open(6, 5));
        CHECK.due("17: -4 of e before -6", -4, h.seal.open(7, 4));
        CHECK.due("17: -6", -6, h.seal.open(7, 5));
        CHECK.due("28: still", 16, h.seal.keys());
    }

    private static House full() {
        House h = new House().put(20, power(70).add(ONE)).put(22, 3);
        for (int k = 0; k < 16; k++) {
            CHECK.due("17: its number", k, h.seal.open(20, 22));
            CHECK.due("28: how many", k + 1, h.seal.keys());
        }
        return h;
    }

    private static void keyWrong() {
        House h = new House();
        SealHouse x = h.seal;
        CHECK.dueIndex("16: p", () -> x.key(24, 0, 0));
        CHECK.dueIndex("16: q", () -> x.key(0, -1, 0));
        CHECK.dueIndex("16: e, where n is refused", () -> x.key(0, 0, 24));
        CHECK.dueIndex("17: n", () -> x.open(-1, 0));
        CHECK.dueIndex("17: e", () -> x.open(0, 24));
        CHECK.due("28: none", 0, x.keys());
    }

    private static void parts() {
        House h = new House().put(0, 255, 255, 255, 251).put(1, 255, 255, 255, 239).put(2, 0, 0, 3).put(3, 7);
        SealHouse x = h.seal;
        CHECK.due("16: zeros ahead of e are none", 0, x.key(0, 1, 2));
        long p = 4294967291L;
        long q = 4294967279L;
        BigInteger d = big(3).modInverse(big(p - 1).multiply(big(q - 1)).shiftRight(1));
        BigInteger[] want = {big(p).multiply(big(q)), big(3), d, big(p), big(q), d.mod(big(p - 1)),
            d.mod(big(q - 1)), big(q).modInverse(big(p))};
        for (int what = 0; what < 8; what++) {
            CHECK.due("18: the length of part " + what, House.fewest(want[what]).length, x.part(0, what, 4));
            CHECK.holds("18: part " + what, h.has(4, want[what]));
        }
        CHECK.dueArgument("18: what 8", () -> x.part(0, 8, 3));
        CHECK.dueArgument("18: what -1", () -> x.part(0, -1, 3));
        CHECK.dueIndex("18: key 1", () -> x.part(1, 0, 3));
        CHECK.dueIndex("18: key -1", () -> x.part(-1, 0, 3));
        CHECK.dueIndex("18: key 16", () -> x.part(16, 0, 3));
        CHECK.dueIndex("18: slot", () -> x.part(0, 0, 24));
        CHECK.dueIndex("18: the key first", () -> x.part(1, 8, 3));
        CHECK.dueIndex("18: the slot first", () -> x.part(0, 8, -1));
        CHECK.holds("18: nothing changed", h.has(3, big(7)));
    }

    private static void partsOfAll() {
        Random random = new Random(18);
        for (int bits = 57; bits <= 1024; bits += 1 + random.nextInt(60)) {
            Keys key = new Keys(bits, bits % 2 == 0 ? 65537 : 257, bits);
            House h = new House();
            CHECK.due("16: of " + bits + " bits", 0, key.whole(h));
            BigInteger[] want = key.parts();
            for (int what = 0; what < 8; what++) {
                CHECK.due("18: length", House.fewest(want[what]).length, h.seal.part(0, what, 4));
                CHECK.holds("18: part " + what + " of " + bits + " bits", h.has(4, want[what]));
            }
        }
    }

    private static void dueOpen(int want, BigInteger n, BigInteger e) {
        House h = new House().put(0, n).put(1, e);
        CHECK.due("17: of " + n + ", " + e, want, h.seal.open(0, 1));
        CHECK.due("28: after " + n + ", " + e, want < 0 ? 0 : 1, h.seal.keys());
    }

    private static void open() {
        BigInteger least = power(56).add(ONE);
        dueOpen(0, least, big(3));
        dueOpen(-1, power(56).subtract(ONE), big(3));
        dueOpen(0, power(1024).subtract(ONE), big(3));
        dueOpen(-1, power(1024).add(ONE), big(3));
        dueOpen(-1, BigInteger.ZERO, big(3));
        dueOpen(-1, power(2048).subtract(ONE), big(3));
        dueOpen(-4, least, big(4));
        dueOpen(-4, least, ONE);
        dueOpen(-4, least, BigInteger.ZERO);
        dueOpen(-4, least, least);
        dueOpen(-4, least, least.add(big(2)));
        dueOpen(0, least, least.subtract(big(2)));
        dueOpen(-4, power(56), big(3));
        dueOpen(-1, power(55), big(4));
        House h = new House().put(0, Model.join(new byte[150], House.fewest(least))).put(1, 0, 3);
        CHECK.due("17: zeros ahead are no length", 0, h.seal.open(0, 1));
    }

    private static void openParts() {
        House h = new House().put(0, power(63).add(ONE)).put(1, 1, 1).put(2, 9);
        SealHouse x = h.seal;
        CHECK.due("17: open", 0, x.open(0, 1));
        CHECK.due("18: n", 8, x.part(0, 0, 3));
        CHECK.holds("18: n", h.has(3, power(63).add(ONE)));
        CHECK.due("18: e", 2, x.part(0, 1, 3));
        CHECK.holds("18: e", h.has(3, big(257)));
        for (int what = 2; what < 8; what++) {
            int part = what;
            CHECK.due("18: an open key has no part " + what, -2, x.part(0, part, 2));
        }
        CHECK.holds("18: nothing changed", h.has(2, big(9)));
        CHECK.dueArgument("18: what 8 of an open key", () -> x.part(0, 8, 2));
        CHECK.dueIndex("18: slot of an open key", () -> x.part(0, 2, 24));
    }

    private static void sixteen() {
        House h = new House().put(0, 255, 255, 255, 251).put(1, 255, 255, 255, 239).put(2, 3);
        SealHouse x = h.seal;
        for (int k = 0; k < 16; k++) {
            CHECK.due("16: its number", k, x.key(0, 1, 2));
        }
        CHECK.due("16: the 17th", -6, x.key(0, 1, 2));
        CHECK.due("28: 16", 16, x.keys());
        CHECK.due("18: of the last", 1, x.part(15, 1, 3));
        CHECK.dueIndex("18: of the 17th", () -> x.part(16, 1, 3));
    }

    private static void turn() {
        Keys key = new Keys(64, 65537, 19);
        House h = new House();
        SealHouse x = h.seal;
        key.whole(h);
        key.open(h);
        h.put(0, 2).put(1, 0, 0, 0, 0, 0, 0, 0, 0, 0, 2).put(2, key.n).put(3, key.n.subtract(ONE)).put(4, 5, 5);
        CHECK.due("19: K", 8, x.turn(0, 0, 0, 5));
        CHECK.holds("19: raised", h.has(5, key.raised(House.bytes(2))));
        CHECK.due("19: K", 8, x.turn(0, 1, 5, 5));
        CHECK.holds("19: lowered again, with zeros ahead", h.has(5, House.bytes(0, 0, 0, 0, 0, 0, 0, 2)));
        CHECK.due("19: zeros ahead are no number", 8, x.turn(1, 0, 1, 5));
        CHECK.holds("19: raised by the open one", h.has(5, key.raised(House.bytes(2))));
        CHECK.due("19: n", -1, x.turn(0, 0, 2, 4));
        CHECK.due("19: n", -1, x.turn(0, 1, 2, 4));
        CHECK.due("19: n less 1", 8, x.turn(0, 0, 3, 5));
        CHECK.holds("19: n less 1 raised", h.has(5, key.n.subtract(ONE)));
        CHECK.due("19: open", -2, x.turn(1, 1, 0, 4));
        CHECK.due("19: open, this first", -2, x.turn(1, 1, 2, 4));
        CHECK.due("19: n of the open", -1, x.turn(1, 0, 2, 4));
        CHECK.holds("19: nothing changed", h.has(4, House.bytes(5, 5)));
        CHECK.due("19: none is 0", 8, x.turn(0, 1, 9, 5));
        CHECK.holds("19: 0 lowered", h.has(5, new byte[8]));
        CHECK.dueArgument("19: how 2", () -> x.turn(0, 2, 0, 4));
        CHECK.dueArgument("19: how -1 of the open", () -> x.turn(1, -1, 2, 4));
        CHECK.dueIndex("19: key 2", () -> x.turn(2, 0, 0, 4));
        CHECK.dueIndex("19: key -1", () -> x.turn(-1, 2, 0, 4));
        CHECK.dueIndex("19: from", () -> x.turn(0, 0, 24, 4));
        CHECK.dueIndex("19: to, of the open", () -> x.turn(1, 1, 0, -1));
        CHECK.dueIndex("19: the slot first", () -> x.turn(0, 2, 0, 24));
        CHECK.holds("19: nothing changed", h.has(4, House.bytes(5, 5)));
    }

    private static void turnAll() {
        Random random = new Random(28);
        for (int bits = 57; bits <= 1024; bits += 1 + random.nextInt(50)) {
            Keys key = new Keys(bits, 65537, bits + 1);
            byte[] row = House.fewest(new BigInteger(bits - 1 - random.nextInt(20), random));
            House h = new House().put(0, row);
            key.whole(h);
            CHECK.due("19: K", key.length(), h.seal.turn(0, 0, 0, 1));
            CHECK.holds("19: raised, " + bits + " bits", h.has(1, key.raised(row)));
            CHECK.due("19: K", key.length(), h.seal.turn(0, 1, 0, 1));
            CHECK.holds("19: lowered, " + bits + " bits", h.has(1, key.lowered(row)));
        }
    }

    /** What passes for a prime makes a key; lowered is to the power d all the same. */
    private static void turnFalsePrimes() {
        BigInteger q = big(4294967291L);
        BigInteger n = FALSE_PRIME.multiply(q);
        BigInteger e = big(7);
        BigInteger d = e.modInverse(Model.lcm(FALSE_PRIME.subtract(ONE), q.subtract(ONE)));
        House h = new House().put(0, FALSE_PRIME).put(1, q).put(2, e);
        CHECK.due("16: of a false prime", 0, h.seal.key(0, 1, 2));
        h.seal.part(0, 2, 3);
        CHECK.holds("18: its d", h.has(3, d));
        for (BigInteger m : new BigInteger[] {big(2), big(101), FALSE_P, FALSE_Q.multiply(big(9)), q, n.subtract(ONE)}) {
            h.put(4, m);
            CHECK.due("19: K", 14, h.seal.turn(0, 1, 4, 5));
            CHECK.holds("19: " + m + " to the power d", h.has(5, House.sized(m.modPow(d, n), 14)));
        }
    }

    private static void keyKeepsItsOwn() {
        Keys key = new Keys(80, 17, 3);
        House h = new House();
        key.whole(h);
        new Keys(90, 257, 4).whole(h);
        h.put(20, 1).put(21, 1).put(22, 1).put(0, 9);
        CHECK.due("16: a second key", 2, h.seal.keys());
        CHECK.due("19: the first key", 10, h.seal.turn(0, 1, 0, 1));
        CHECK.holds("19: the first key is as it was", h.has(1, key.lowered(House.bytes(9))));
        h.seal.part(0, 3, 2);
        CHECK.due("8: a part is changed", House.fewest(key.p)[0] & 255, h.seal.change(2, 0, 1));
        h.seal.part(0, 3, 2);
        CHECK.holds("18: the key has it still", h.has(2, key.p));
    }
}
