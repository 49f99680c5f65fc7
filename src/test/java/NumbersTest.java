import java.math.BigInteger;
import java.util.Random;

/** Promises 9 to 13: calc, compare, bits, probable, next. */
final class NumbersTest {
    private static final Check CHECK = new Check();
    private static final BigInteger ONE = BigInteger.ONE;
    private static final BigInteger TOP = BigInteger.TWO.pow(2048).subtract(ONE);
    static final int[] BASES = {2, 3, 5, 7, 11, 13, 17, 19, 23, 29, 31, 37};
    /** For each base a product of two primes that deceives the eleven others. */
    static final String[] FOUND_OUT = {
        "468453052746064772997484083211", "1543491012230477229536612193061", "228748124381101622772418261",
        "1114454675226592290813258131101", "246682147927543807085208345061", "75543753036453855097759902181",
        "4883970714550734308552713981", "2489449777323243026676729422941", "273032387851627963191617888221",
        "820454262515712553526953953661", "301735183654082855105413422301", "772499352399295928468469911821"
    };

    public static void main(String[] args) {
        calcSmall();
        calcRefused();
        calcWrong();
        calcLong();
        calcOntoItself();
        divisions();
        inverses();
        powers();
        compare();
        bits();
        probable();
        allBases();
        next();
        nextFar();
        CHECK.end();
    }

    private static BigInteger big(String digits) {
        return new BigInteger(digits);
    }

    private static BigInteger big(long value) {
        return BigInteger.valueOf(value);
    }

    private static void due(int what, BigInteger a, BigInteger b, BigInteger c, BigInteger want) {
        House h = new House().put(0, a).put(1, b).put(2, c).put(3, 9, 9);
        String name = "9: " + what + " of " + a + ", " + b + ", " + c;
        CHECK.due(name, (want.bitLength() + 7) / 8, h.seal.calc(what, 0, 1, 2, 3));
        CHECK.holds(name + " is " + want, h.has(3, want));
    }

    private static void refused(int what, BigInteger a, BigInteger b, BigInteger c, int want) {
        House h = new House().put(0, a).put(1, b).put(2, c).put(3, 0, 9);
        String name = "9: " + what + " of " + a + ", " + b + ", " + c;
        CHECK.due(name, want, h.seal.calc(what, 0, 1, 2, 3));
        CHECK.holds(name + " changes nothing", h.has(3, House.bytes(0, 9)));
        CHECK.holds(name + " changes nothing", h.has(0, a));
    }

    private static void calcSmall() {
        BigInteger none = BigInteger.ZERO;
        due(0, big(255), big(1), none, big(256));
        due(0, none, none, none, none);
        due(1, big(256), big(1), none, big(255));
        due(1, big(7), big(7), none, none);
        due(2, big(255), big(255), none, big(65025));
        due(2, big(255), none, none, none);
        due(3, big(1000), big(7), none, big(142));
        due(4, big(1000), big(7), none, big(6));
        due(3, big(6), big(7), none, none);
        due(4, big(6), big(7), none, big(6));
        due(3, none, big(7), none, none);
        due(5, big(84), big(36), none, big(12));
        due(5, none, big(36), none, big(36));
        due(5, big(84), none, none, big(84));
        due(5, none, none, none, none);
        due(6, big(84), big(36), none, big(252));
        due(6, none, big(36), none, none);
        due(6, big(84), none, none, none);
        due(6, none, none, none, none);
        due(7, big(3), big(7), none, big(5));
        due(7, big(10), big(7), none, big(5));
        due(7, big(6), big(7), none, big(6));
        due(7, big(1), big(7), none, big(1));
        due(7, none, big(1), none, none);
        due(7, big(5), big(1), none, none);
        due(8, big(3), big(4), big(50), big(31));
        due(8, big(3), none, big(50), big(1));
        due(8, none, none, big(50), big(1));
        due(8, none, none, big(1), none);
        due(8, none, big(5), big(50), none);
        due(8, big(60), big(1), big(50), big(10));
        due(8, big(3), big(5), big(1), none);
    }

    private static void calcRefused() {
        BigInteger none = BigInteger.ZERO;
        refused(1, big(6), big(7), none, -1);
        refused(1, none, big(1), none, -1);
        refused(1, TOP.shiftRight(1), TOP, none, -1);
        refused(3, big(6), none, big(1), -2);
        refused(4, none, none, big(1), -2);
        refused(7, big(6), none, big(1), -2);
        refused(8, big(6), big(1), none, -2);
        refused(7, big(6), big(9), none, -3);
        refused(7, none, big(9), none, -3);
        refused(7, big(9), big(9), none, -3);
        refused(0, TOP, big(1), none, -4);
        refused(0, TOP, TOP, none, -4);
        refused(2, BigInteger.TWO.pow(1024), BigInteger.TWO.pow(1024), none, -4);
        refused(2, TOP, TOP, none, -4);
        refused(2, TOP, big(2), none, -4);
        refused(6, TOP, TOP.subtract(ONE), none, -4);
        refused(6, BigInteger.TWO.pow(2047), big(3), none, -4);
        refused(8, big(1), big(1), BigInteger.TWO.pow(1024), -4);
        refused(8, big(1), big(1), TOP, -4);
    }

    private static void calcWrong() {
        House h = new House().put(0, 5);
        SealHouse x = h.seal;
        CHECK.dueArgument("9: what -1", () -> x.calc(-1, 0, 0, 0, 0));
        CHECK.dueArgument("9: what 9", () -> x.calc(9, 0, 0, 0, 0));
        CHECK.dueArgument("9: what far away", () -> x.calc(Integer.MAX_VALUE, 0, 0, 0, 0));
        CHECK.dueIndex("9: a", () -> x.calc(0, 24, 0, 0, 0));
        CHECK.dueIndex("9: b", () -> x.calc(0, 0, -1, 0, 0));
        CHECK.dueIndex("9: c, which a sum does not ask for", () -> x.calc(0, 0, 0, 24, 0));
        CHECK.dueIndex("9: to", () -> x.calc(0, 0, 0, 0, -1));
        CHECK.dueIndex("9: to, where it is refused", () -> x.calc(3, 0, 1, 1, 24));
        CHECK.dueIndex("9: the slot before the what", () -> x.calc(9, 0, 0, 0, 24));
        CHECK.holds("9: nothing changed", h.has(0, big(5)));
    }

    private static void calcLong() {
        due(0, TOP.subtract(ONE), ONE, ONE, TOP);
        due(1, TOP, ONE, ONE, TOP.subtract(ONE));
        due(1, BigInteger.TWO.pow(2040), ONE, ONE, BigInteger.TWO.pow(2040).subtract(ONE));
        BigInteger half = BigInteger.TWO.pow(1024).subtract(ONE);
        due(2, half, half, ONE, half.multiply(half));
        due(2, BigInteger.TWO.pow(1024), BigInteger.TWO.pow(1023), ONE, BigInteger.TWO.pow(2047));
        due(2, TOP, ONE, ONE, TOP);
        due(6, TOP, TOP, ONE, TOP);
        due(6, TOP, big(3), ONE, TOP);
        due(5, TOP, half, ONE, half);
        due(3, TOP, half, ONE, half.add(big(2)));
        due(4, TOP, TOP, ONE, BigInteger.ZERO);
        due(3, TOP, ONE, ONE, TOP);
        House h = new House().put(0, new byte[256]).put(1, 0, 0, 5);
        CHECK.due("9: zeros ahead are not put", 1, h.seal.calc(0, 0, 1, 1, 2));
        CHECK.due("9: 256 zeros divide nothing", -2, h.seal.calc(4, 1, 0, 0, 2));
        h.put(0, Model.join(new byte[100], House.bytes(7)));
        CHECK.due("9: zeros ahead of c are no length", 1, h.seal.calc(8, 1, 1, 0, 2));
        h.put(0, Model.join(new byte[200], House.bytes(7)));
        CHECK.due("9: nor are two hundred", 1, h.seal.calc(8, 1, 1, 0, 2));
        CHECK.holds("9: 5 to the power 5 by 7", h.has(2, big(3)));
    }

    private static void calcOntoItself() {
        House h = new House().put(0, 200, 100);
        CHECK.due("9: all slots one", 3, h.seal.calc(0, 0, 0, 0, 0));
        CHECK.holds("9: all slots one", h.has(0, big(2 * 51300)));
        CHECK.due("9: a square", 5, h.seal.calc(2, 0, 0, 0, 0));
        CHECK.holds("9: a square", h.has(0, big(102600L * 102600L)));
        CHECK.due("9: less itself", 0, h.seal.calc(1, 0, 0, 0, 0));
        CHECK.due("9: less itself", 0, h.seal.size(0));
    }

    /** Divisors and dividends with limbs at their edges, where a guessed digit may be too high. */
    private static void divisions() {
        Random random = new Random(9);
        for (int k = 0; k < 400; k++) {
            BigInteger a = edgy(random, 1 + random.nextInt(2048));
            BigInteger b = edgy(random, 1 + random.nextInt(k % 4 == 0 ? 60 : 2048)).max(ONE);
            House h = new House().put(0, a).put(1, b);
            h.seal.calc(3, 0, 1, 0, 2);
            h.seal.calc(4, 0, 1, 0, 3);
            CHECK.holds("9: " + a + " / " + b, h.has(2, a.divide(b)) && h.has(3, a.mod(b)));
        }
    }

    private static BigInteger edgy(Random random, int size) {
        BigInteger number = BigInteger.ZERO;
        while (number.bitLength() < size) {
            int run = 1 + random.nextInt(70);
            BigInteger piece = switch (random.nextInt(4)) {
                case 0 -> BigInteger.ZERO;
                case 1 -> BigInteger.TWO.pow(run).subtract(ONE);
                case 2 -> BigInteger.TWO.pow(run - 1);
                default -> new BigInteger(run, random);
            };
            number = number.shiftLeft(run).or(piece).setBit(0);
        }
        return number.shiftRight(number.bitLength() - size);
    }

    private static void inverses() {
        Random random = new Random(7);
        for (int k = 0; k < 60; k++) {
            BigInteger b = edgy(random, 2 + random.nextInt(2047)).max(BigInteger.TWO);
            BigInteger a = edgy(random, 1 + random.nextInt(2048));
            House h = new House().put(0, a).put(1, b).put(2, 77);
            if (a.gcd(b).equals(ONE)) {
                BigInteger want = a.modInverse(b);
                CHECK.due("9: the inverse's length", House.fewest(want).length, h.seal.calc(7, 0, 1, 0, 2));
                CHECK.holds("9: the inverse of " + a + " by " + b, h.has(2, want));
            } else {
                CHECK.due("9: no inverse of " + a + " by " + b, -3, h.seal.calc(7, 0, 1, 0, 2));
            }
            h.seal.calc(5, 0, 1, 0, 2);
            CHECK.holds("9: the divisor of " + a + " and " + b, h.has(2, a.gcd(b)));
        }
        BigInteger[] pair = {ONE, ONE};
        while (pair[1].bitLength() < 2048) {
            pair = new BigInteger[] {pair[1], pair[0].add(pair[1])};
        }
        House h = new House().put(0, pair[0]).put(1, pair[1]);
        h.seal.calc(5, 1, 0, 0, 2);
        CHECK.holds("9: the longest way to a divisor", h.has(2, ONE));
        h.seal.calc(7, 0, 1, 0, 2);
        CHECK.holds("9: the longest way to an inverse", h.has(2, pair[0].modInverse(pair[1])));
    }

    private static void powers() {
        Random random = new Random(8);
        for (int k = 0; k < 60; k++) {
            BigInteger a = edgy(random, 1 + random.nextInt(2048));
            BigInteger b = edgy(random, 1 + random.nextInt(k % 3 == 0 ? 2048 : 40));
            BigInteger c = edgy(random, 1 + random.nextInt(1024)).max(ONE);
            if (k % 2 == 0) {
                c = c.clearBit(0).setBit(1 + random.nextInt(5));
            }
            due(8, a, b, c, a.modPow(b, c));
        }
        BigInteger most = BigInteger.TWO.pow(1024).subtract(ONE);
        due(8, TOP, TOP, most, TOP.modPow(TOP, most));
        due(8, TOP, TOP, most.subtract(ONE), TOP.modPow(TOP, most.subtract(ONE)));
    }

    private static void compare() {
        House h = new House().put(0, 1, 0).put(1, 255).put(2, 0, 0, 255).put(3, new byte[256]);
        h.put(4, House.times(255, 256)).put(5, 2, 0).put(6, 1, 1);
        SealHouse x = h.seal;
        CHECK.due("10: above", 1, x.compare(0, 1));
        CHECK.due("10: below", -1, x.compare(1, 0));
        CHECK.due("10: the same with zeros ahead", 0, x.compare(1, 2));
        CHECK.due("10: a longer row is not above", -1, x.compare(2, 0));
        CHECK.due("10: none is as zeros", 0, x.compare(3, 7));
        CHECK.due("10: the highest", 1, x.compare(4, 0));
        CHECK.due("10: itself", 0, x.compare(4, 4));
        CHECK.due("10: by its highest byte", -1, x.compare(6, 5));
        CHECK.due("10: by its lowest byte", 1, x.compare(6, 0));
        CHECK.dueIndex("10: a", () -> x.compare(-1, 0));
        CHECK.dueIndex("10: b", () -> x.compare(0, 24));
        CHECK.due("10: the row stays", 3, x.size(2));
    }

    private static void bits() {
        House h = new House().put(0, 0, 1).put(1, 255, 0).put(2, 128).put(3, House.times(255, 256)).put(4, 0, 0);
        SealHouse x = h.seal;
        CHECK.due("11: of 1", 1, x.bits(0));
        CHECK.due("11: of 65280", 16, x.bits(1));
        CHECK.due("11: of 128", 8, x.bits(2));
        CHECK.due("11: the most", 2048, x.bits(3));
        CHECK.due("11: of zeros", 0, x.bits(4));
        CHECK.due("11: of none", 0, x.bits(5));
        for (int k = 0; k < 2048; k += 9) {
            House one = new House().put(0, BigInteger.TWO.pow(k));
            CHECK.due("11: of 2 to the power " + k, k + 1, one.seal.bits(0));
        }
        CHECK.dueIndex("11: slot -1", () -> x.bits(-1));
        CHECK.dueIndex("11: slot 24", () -> x.bits(24));
    }

    private static boolean isProbable(BigInteger number) {
        return new House().put(0, number).seal.probable(0);
    }

    private static void probable() {
        for (int k = 0; k < 3000; k++) {
            boolean want = big(k).isProbablePrime(60) && k > 1;
            CHECK.holds("12: " + k, isProbable(big(k)) == want);
        }
        // Numbers that are no primes and deceive the first nine to eleven, twelve and thirteen bases.
        CHECK.holds("12: found out by 37 alone", !isProbable(big("3825123056546413051")));
        CHECK.holds("12: deceives all twelve", isProbable(big("318665857834031151167461")));
        CHECK.holds("12: deceives thirteen", isProbable(big("3317044064679887385961981")));
        CHECK.holds("12: Carmichael's 561", !isProbable(big(561)));
        CHECK.holds("12: deceives base 2 of 2,047", !isProbable(big(2047)));
        CHECK.holds("12: deceives bases 2, 3, 5, 7", !isProbable(big("3215031751")));
        CHECK.holds("12: with many twos below", isProbable(big(65537)));
        CHECK.holds("12: 2^31 - 1", isProbable(big(2147483647)));
        CHECK.holds("12: 2^127 - 1", isProbable(BigInteger.TWO.pow(127).subtract(ONE)));
        CHECK.holds("12: 2^128 + 1", !isProbable(BigInteger.TWO.pow(128).add(ONE)));
        for (int twos = 1; twos < 200; twos += 9) {
            BigInteger shorter = twosPrime(ONE, twos);
            BigInteger longer = twosPrime(edgy(new Random(twos), 280).setBit(0), twos);
            CHECK.holds("12: a prime with " + twos + " twos below", isProbable(shorter));
            CHECK.holds("12: a longer one with " + twos + " twos below", isProbable(longer));
            CHECK.holds("12: no prime, with " + twos + " twos below", !isProbable(shorter.multiply(shorter)));
        }
        BigInteger last = BigInteger.TWO.pow(512).subtract(big(569));
        CHECK.holds("12: the last prime of 64 bytes", isProbable(last));
        CHECK.holds("12: the first prime of 65 bytes", !isProbable(BigInteger.TWO.pow(512).add(big(75))));
        CHECK.holds("12: 2^521 - 1 is too long", !isProbable(BigInteger.TWO.pow(521).subtract(ONE)));
        CHECK.holds("12: the highest number", !isProbable(TOP));
        House h = new House().put(0, Model.join(new byte[190], House.fewest(last))).put(1, 0, 0, 37).put(2, 0, 2);
        CHECK.holds("12: zeros ahead are no length", h.seal.probable(0));
        CHECK.holds("12: zeros ahead of 37", h.seal.probable(1));
        CHECK.holds("12: zeros ahead of 2", h.seal.probable(2));
        CHECK.holds("12: none", !h.seal.probable(3));
        CHECK.dueIndex("12: slot -1", () -> h.seal.probable(-1) ? 1 : 0);
        CHECK.dueIndex("12: slot 24", () -> h.seal.probable(24) ? 1 : 0);
    }

    private static void allBases() {
        for (int k = 0; k < BASES.length; k++) {
            BigInteger number = big(FOUND_OUT[k]);
            for (int base : BASES) {
                boolean deceived = base != BASES[k];
                CHECK.holds("the test's own number " + number, new Powers(number, base).isDeceived() == deceived);
            }
            CHECK.holds("12: found out by " + BASES[k] + " alone", !isProbable(number));
        }
    }

    /** A prime that is 1 more than a number with just so many twos, and an odd part from this one on. */
    private static BigInteger twosPrime(BigInteger odd, int twos) {
        BigInteger part = odd;
        while (!part.shiftLeft(twos).add(ONE).isProbablePrime(60)) {
            part = part.add(BigInteger.TWO);
        }
        return part.shiftLeft(twos).add(ONE);
    }

    private static void dueNext(BigInteger from, BigInteger want) {
        House h = new House().put(0, from);
        CHECK.due("13: behind " + from, House.fewest(want).length, h.seal.next(0, 1));
        CHECK.holds("13: behind " + from, h.has(1, want));
        CHECK.holds("13: the told one stays", h.has(0, from));
    }

    private static void next() {
        dueNext(big(0), big(2));
        dueNext(big(1), big(2));
        dueNext(big(2), big(3));
        dueNext(big(36), big(37));
        dueNext(big(37), big(41));
        dueNext(big(250), big(251));
        dueNext(big(251), big(257));
        dueNext(big("318665857834031151167460"), big("318665857834031151167461"));
        dueNext(BigInteger.TWO.pow(28).subtract(ONE), BigInteger.TWO.pow(28).add(big(3)));
        dueNext(BigInteger.TWO.pow(56).subtract(ONE), BigInteger.TWO.pow(56).nextProbablePrime());
        BigInteger last = BigInteger.TWO.pow(512).subtract(big(569));
        dueNext(last.subtract(ONE), last);
        House h = new House().put(0, last).put(1, 0, 1).put(2, BigInteger.TWO.pow(512)).put(3, TOP);
        SealHouse x = h.seal;
        CHECK.due("13: there is none of 64 bytes", -1, x.next(0, 1));
        CHECK.due("13: nor behind the highest", -4, x.next(2, 1));
        CHECK.due("13: more than 64 bytes", -4, x.next(3, 1));
        CHECK.holds("13: nothing changed", h.has(1, House.bytes(0, 1)));
        h.put(4, BigInteger.TWO.pow(512).subtract(ONE)).put(5, Model.join(new byte[70], House.bytes(13)));
        CHECK.due("13: behind the highest of 64 bytes", -1, x.next(4, 1));
        CHECK.due("13: zeros ahead are no length", 1, x.next(5, 5));
        CHECK.holds("13: onto itself", h.has(5, big(17)));
        CHECK.dueIndex("13: from", () -> x.next(24, 0));
        CHECK.dueIndex("13: to", () -> x.next(0, -1));
        CHECK.dueIndex("13: to, where it is too long", () -> x.next(3, 24));
    }

    /** A run of numbers without a prime that is longer than 2,000 on one side and just so long on the other. */
    private static void nextFar() {
        BigInteger start = Gaps.startOfRun();
        BigInteger end = start;
        do {
            end = end.add(ONE);
        } while (!Model.isProbable(end));
        CHECK.holds("13: the run is longer than 2,000", end.subtract(start).intValue() > 2000);
        House h = new House().put(0, start).put(1, 5);
        CHECK.due("13: none among 2,000", -1, h.seal.next(0, 1));
        CHECK.holds("13: none changes nothing", h.has(1, big(5)));
        h.put(0, end.subtract(big(2001)));
        CHECK.due("13: it is the 2,001st", -1, h.seal.next(0, 1));
        h.put(0, end.subtract(big(2000)));
        CHECK.due("13: it is the 2,000th", House.fewest(end).length, h.seal.next(0, 1));
        CHECK.holds("13: the 2,000th", h.has(1, end));
    }
}
