import java.math.BigInteger;
import java.util.Arrays;

/** Each sentence of terms 5 on signing and of promises 24 to 27 that names an edge, at the edge and on both its sides. */
final class SigningEdgesTest {
    private static final Check CHECK = new Check();
    private static final int M = 0;
    private static final int SALT = 1;
    private static final int SIGNED = 2;
    private static final int OUT = 3;
    /** The slot of calls that come before the one that is looked at, lest it find all as new. */
    private static final int BEFORE = 9;
    private static final byte[] KEPT = {0, 9};
    private static final byte[] NONE = {};
    private static final byte[] MESSAGE = {1, 2, 3};
    /** Its n has 600 bits less 3: a signature has room for n once more in its 75 bytes. */
    private static final Keys KEY = new Keys(597, 17, 24);
    /** The salt of most rows here. */
    private static final byte[] FIVE = Pads.random(27, 5);

    public static void main(String[] args) {
        for (int hash = 0; hash < 2; hash++) {
            signedLengths(hash);
            signedShort(hash);
            signOpen(hash);
            provedLength(hash);
            provedBelow(hash);
            provedJustThat(hash);
            proveShort(hash);
            saltedBits(hash);
            saltedMessages(hash);
            saltedNoZeros(hash);
            saltedZeros(hash);
            saltedShort(hash);
            saltOpen(hash);
            tastedLength(hash);
            tastedBelow(hash);
            tastedHighest(hash);
            tastedEnd(hash);
            tastedLeast(hash);
            tastedBits(hash);
            tastedZeros(hash);
            tastedSalt(hash);
            tastedProof(hash);
            otherSalt(hash);
        }
        CHECK.end();
    }

    private static void dueSigned(int want, Keys key, int hash, byte[] message) {
        House h = new House().put(M, message).put(OUT, KEPT);
        key.whole(h);
        String name = "hash " + hash + ", K " + key.length() + ", a message of " + message.length;
        h.seal.mask(hash, M, 256, BEFORE);
        CHECK.due(name, want, h.seal.sign(0, hash, M, OUT));
        byte[] left = want < 0 ? KEPT : key.lowered(Pads.signed(hash, key.length(), message));
        CHECK.holds(name + ": what stands there", h.has(OUT, left));
        if (want > 0) {
            CHECK.due(name + ": proved", 1, h.seal.prove(0, hash, M, OUT));
        }
    }

    private static void signedLengths(int hash) {
        CHECK.sentence("SIGNED of M: 0 | 1 | 255s | 0 | A | DIGEST M, of K BYTES, LOWERED");
        for (int count : new int[] {0, 1, 55, 56, 63, 64, 255, 256}) {
            dueSigned(KEY.length(), KEY, hash, Pads.random(count, count));
            dueSigned(KEY.length(), KEY, hash, new byte[count]);
        }
        for (int bits : new int[] {593, 599, 600, 601, 1016, 1017, 1024}) {
            Keys key = new Keys(bits, 17, bits);
            dueSigned(key.length(), key, hash, MESSAGE);
        }
    }

    private static void signedShort(int hash) {
        CHECK.sentence("-6: K is less than 19 + H + 11.");
        int least = 19 + Pads.length(hash) + 11;
        for (int k : new int[] {8, 9, least - 8, least - 2, least - 1, least, least + 1, 128}) {
            for (int bits : new int[] {8 * k - 7, 8 * k}) {
                dueSigned(k < least ? -6 : k, new Keys(bits, 17, bits), hash, MESSAGE);
            }
        }
    }

    private static void signOpen(int hash) {
        CHECK.sentence("SIGNED comes to a SLOT: K; -2: the KEY is open; -6.");
        House h = new House().put(M, MESSAGE).put(OUT, KEPT);
        KEY.open(h);
        new Keys(64, 17, 1).open(h);
        new Keys(64, 17, 1).whole(h);
        CHECK.due("open", -2, h.seal.sign(0, hash, M, OUT));
        CHECK.due("open and short", -2, h.seal.sign(1, hash, M, OUT));
        CHECK.due("whole and short", -6, h.seal.sign(2, hash, M, OUT));
        CHECK.holds("nothing changed", h.has(OUT, KEPT));
        KEY.whole(h);
        CHECK.due("whole", KEY.length(), h.seal.sign(3, hash, M, OUT));
    }

    private static void dueProved(int want, String name, Keys key, int hash, byte[] message, byte[] row) {
        House h = new House().put(M, message).put(SIGNED, row);
        key.open(h);
        CHECK.due(name + ", hash " + hash + ", K " + key.length(), want, h.seal.prove(0, hash, M, SIGNED));
        CHECK.holds(name + ": the row stays", h.has(SIGNED, row));
    }

    private static void provedLength(int hash) {
        CHECK.sentence("PROVED: the ROW has K BYTES");
        int k = KEY.length();
        byte[] message = {0, 0};
        byte[] row;
        do {
            message[0]++;
            message[1] += message[0] == 0 ? 1 : 0;
            row = KEY.lowered(Pads.signed(hash, k, message));
        } while (row[0] != 0);
        dueProved(1, "K bytes", KEY, hash, message, row);
        dueProved(0, "the same number of a byte less", KEY, hash, message, Arrays.copyOfRange(row, 1, k));
        dueProved(0, "the same number of a byte more", KEY, hash, message, Model.join(House.bytes(0), row));
        dueProved(0, "the same number of 256 bytes", KEY, hash, message, Model.join(new byte[256 - k], row));
        dueProved(0, "a byte behind", KEY, hash, message, Model.join(row, House.bytes(0)));
        dueProved(0, "none", KEY, hash, message, NONE);
    }

    private static void provedBelow(int hash) {
        CHECK.sentence("PROVED: the ROW has K BYTES, its NUMBER is below n");
        int k = KEY.length();
        byte[] row = KEY.lowered(Pads.signed(hash, k, MESSAGE));
        BigInteger number = new BigInteger(1, row);
        dueProved(1, "below n", KEY, hash, MESSAGE, row);
        dueProved(0, "n more", KEY, hash, MESSAGE, House.sized(number.add(KEY.n), k));
        dueProved(0, "twice n more", KEY, hash, MESSAGE, House.sized(number.add(KEY.n).add(KEY.n), k));
        dueProved(0, "n less 1", KEY, hash, MESSAGE, House.sized(KEY.n.subtract(BigInteger.ONE), k));
        dueProved(0, "n", KEY, hash, MESSAGE, House.sized(KEY.n, k));
        dueProved(0, "the highest", KEY, hash, MESSAGE, House.times(255, k));
    }

    private static void provedJustThat(int hash) {
        CHECK.sentence("RAISED it is just that: 1, else 0");
        int k = KEY.length();
        byte[] good = Pads.signed(hash, k, MESSAGE);
        for (int place = 0; place < k; place++) {
            for (int bit : new int[] {1, 8}) {
                byte[] bad = good.clone();
                bad[place] ^= (byte) bit;
                dueProved(0, "byte " + place + " bent by " + bit, KEY, hash, MESSAGE, KEY.lowered(bad));
            }
        }
        byte[] tail = Arrays.copyOfRange(good, k - Pads.length(hash) - 20, k);
        dueProved(0, "a 255 less and a byte behind", KEY, hash, MESSAGE, KEY.lowered(
                Model.join(House.bytes(0, 1), House.times(255, k - 3 - tail.length), tail, House.bytes(0))));
        byte[] other = Pads.signed(1 - hash, k, MESSAGE);
        dueProved(0, "the other hash", KEY, hash, MESSAGE, KEY.lowered(other));
        dueProved(0, "a message of a byte more", KEY, hash, House.bytes(1, 2, 3, 0), KEY.lowered(good));
        dueProved(0, "a message of a byte less", KEY, hash, House.bytes(1, 2), KEY.lowered(good));
        dueProved(1, "as it is", KEY, hash, MESSAGE, KEY.lowered(good));
    }

    private static void proveShort(int hash) {
        CHECK.sentence("PROVED: 1, 0; -6.");
        House h = new House().put(M, MESSAGE).put(SIGNED, KEY.lowered(Pads.signed(hash, KEY.length(), MESSAGE)));
        KEY.open(h);
        new Keys(64, 17, 1).open(h);
        CHECK.due("as it is", 1, h.seal.prove(0, hash, M, SIGNED));
        CHECK.due("another", 0, h.seal.prove(0, hash, SIGNED, SIGNED));
        CHECK.due("a short key", -6, h.seal.prove(1, hash, M, SIGNED));
        CHECK.sentence("1, else 0 (-6 likewise).");
        int least = 19 + Pads.length(hash) + 11;
        for (int k : new int[] {8, least - 1, least, least + 1}) {
            Keys key = new Keys(8 * k - 2, 17, k);
            int no = k < least ? -6 : 0;
            dueProved(no, "0s", key, hash, MESSAGE, new byte[k]);
            dueProved(no, "none", key, hash, MESSAGE, NONE);
            dueProved(no, "not below n", key, hash, MESSAGE, House.times(255, k));
            dueProved(no, "too long", key, hash, MESSAGE, new byte[256]);
            if (k >= least - 1) {
                // With a K of one less there are seven 255s: all is well but for their number.
                dueProved(k < least ? -6 : 1, "signed", key, hash, MESSAGE, key.lowered(Pads.signed(hash, k, MESSAGE)));
            }
        }
    }

    private static int bytesOf(int bits) {
        return (bits - 1 + 7) / 8;
    }

    private static void dueSalted(int want, Keys key, int hash, byte[] message, byte[] salt) {
        House h = new House().put(M, message).put(SALT, salt).put(OUT, KEPT);
        key.whole(h);
        int bits = key.n.bitLength();
        String name = "hash " + hash + ", " + bits + " bits, a salt of " + salt.length;
        h.seal.salt(0, hash, M, BEFORE, BEFORE);
        h.seal.mask(hash, M, 256, BEFORE);
        CHECK.due(name, want, h.seal.salt(0, hash, M, SALT, OUT));
        byte[] left = want < 0 ? KEPT : key.lowered(Pads.salted(hash, bits, message, salt));
        CHECK.holds(name + ": what stands there", h.has(OUT, left));
        CHECK.due(name + ": tasted", want < 0 ? 0 : 1, h.seal.taste(0, hash, M, OUT, salt.length));
    }

    private static void saltedBits(int hash) {
        CHECK.sentence("B is one less than the bits of n, E = B / 8, rounded up");
        for (int bits = 585; bits <= 602; bits++) {
            Keys key = new Keys(bits, 17, bits);
            int most = bytesOf(bits) - Pads.length(hash) - 2;
            for (int count : new int[] {0, 1, most - 1, most}) {
                dueSalted(key.length(), key, hash, MESSAGE, Pads.random(count, count));
            }
            dueSalted(-6, key, hash, MESSAGE, Pads.random(1, most + 1));
        }
    }

    private static void saltedMessages(int hash) {
        CHECK.sentence("U = DIGEST (eight 0s | DIGEST M | X)");
        for (int count : new int[] {0, 1, 55, 56, 64, 255, 256}) {
            for (int salt : new int[] {0, 1, 15, 16, 19, 20, 24}) {
                dueSalted(KEY.length(), KEY, hash, Pads.random(count, count), Pads.random(salt, salt));
            }
        }
    }

    private static void saltedNoZeros(int hash) {
        CHECK.sentence("D = 0s | 1 | X, of E - H - 1 BYTES");
        for (int bits : new int[] {593, 594, 600, 1017, 1018, 1024}) {
            Keys key = new Keys(bits, 17, bits);
            int most = bytesOf(bits) - Pads.length(hash) - 2;
            for (int count = most - 2; count <= most; count++) {
                for (int fill : new int[] {0, 1, 255}) {
                    dueSalted(key.length(), key, hash, MESSAGE, House.times(fill, count));
                }
            }
            dueSalted(key.length(), key, hash, MESSAGE, NONE);
        }
    }

    private static void saltedZeros(int hash) {
        CHECK.sentence("V = D ^ MASK (U, E - H - 1), its highest 8 E - B bits made 0; V | U | 188, LOWERED (K BYTES).");
        for (int bits = 593; bits <= 601; bits++) {
            Keys key = new Keys(bits, 17, bits);
            boolean made = false;
            for (int k = 0; k < 12; k++) {
                byte[] salt = Pads.random(k, k % 3 * 5);
                byte[] u = Pads.proof(hash, MESSAGE, salt);
                int over = 8 * bytesOf(bits) - bits + 1;
                made |= over > 0 && (Model.mask(hash, u, 1)[0] & 255) >> (8 - over) != 0;
                dueSalted(key.length(), key, hash, MESSAGE, salt);
            }
            CHECK.holds("the test's own, bits that are made 0 with " + bits, made == (bits % 8 != 1));
        }
    }

    private static void saltedShort(int hash) {
        CHECK.sentence("-6: E is less than H + X's BYTES + 2.");
        int least = Pads.length(hash) + 2;
        for (int e = least - 1; e <= least + 2; e++) {
            for (int bits : new int[] {8 * e - 6, 8 * e, 8 * e + 1}) {
                Keys key = new Keys(bits, 17, bits);
                CHECK.due("the test's own", e, bytesOf(bits));
                for (int count = 0; count < 5; count++) {
                    dueSalted(e < least + count ? -6 : key.length(), key, hash, MESSAGE, Pads.random(count, count));
                }
                dueSalted(-6, key, hash, MESSAGE, new byte[256]);
            }
        }
        for (int bits : new int[] {57, 64, 8 * least - 60}) {
            dueSalted(-6, new Keys(bits, 17, bits), hash, MESSAGE, NONE);
        }
        Keys longest = new Keys(1024, 17, 5);
        for (int count = 128 - least - 1; count <= 128 - least + 1; count++) {
            dueSalted(count <= 128 - least ? 128 : -6, longest, hash, MESSAGE, Pads.random(count, count));
        }
    }

    private static void saltOpen(int hash) {
        CHECK.sentence("SALTED comes to a SLOT: K; -2; -6.");
        House h = new House().put(M, MESSAGE).put(SALT, FIVE).put(OUT, KEPT);
        KEY.open(h);
        new Keys(64, 17, 1).open(h);
        new Keys(64, 17, 1).whole(h);
        CHECK.due("open", -2, h.seal.salt(0, hash, M, SALT, OUT));
        CHECK.due("open and short", -2, h.seal.salt(1, hash, M, SALT, OUT));
        CHECK.due("whole and short", -6, h.seal.salt(2, hash, M, SALT, OUT));
        CHECK.holds("nothing changed", h.has(OUT, KEPT));
        KEY.whole(h);
        CHECK.due("whole", KEY.length(), h.seal.salt(3, hash, M, SALT, OUT));
    }

    private static void dueTasted(int want, String name, Keys key, int hash, byte[] row, int x) {
        House h = new House().put(M, MESSAGE).put(SIGNED, row);
        key.open(h);
        String all = name + ", hash " + hash + ", " + key.n.bitLength() + " bits, a salt of " + x;
        CHECK.due(all, want, h.seal.taste(0, hash, M, SIGNED, x));
        CHECK.holds(all + ": the row stays", h.has(SIGNED, row));
    }

    private static void tastedLength(int hash) {
        CHECK.sentence("TASTED, for a salt of x BYTES: the ROW has K BYTES");
        int k = KEY.length();
        byte[] row;
        int seed = 0;
        do {
            seed++;
            row = KEY.lowered(Pads.salted(hash, 597, MESSAGE, Pads.random(seed, 5)));
        } while (row[0] != 0);
        dueTasted(1, "K bytes", KEY, hash, row, 5);
        dueTasted(0, "the same number of a byte less", KEY, hash, Arrays.copyOfRange(row, 1, k), 5);
        dueTasted(0, "the same number of a byte more", KEY, hash, Model.join(House.bytes(0), row), 5);
        dueTasted(0, "the same number of 256 bytes", KEY, hash, Model.join(new byte[256 - k], row), 5);
        dueTasted(0, "a byte behind", KEY, hash, Model.join(row, House.bytes(0)), 5);
        dueTasted(0, "none", KEY, hash, NONE, 5);
    }

    private static void tastedBelow(int hash) {
        CHECK.sentence("TASTED, for a salt of x BYTES: the ROW has K BYTES, its NUMBER is below n");
        int k = KEY.length();
        byte[] row = KEY.lowered(Pads.salted(hash, 597, MESSAGE, FIVE));
        BigInteger number = new BigInteger(1, row);
        dueTasted(1, "below n", KEY, hash, row, 5);
        dueTasted(0, "n more", KEY, hash, House.sized(number.add(KEY.n), k), 5);
        dueTasted(0, "twice n more", KEY, hash, House.sized(number.add(KEY.n).add(KEY.n), k), 5);
        dueTasted(0, "n less 1", KEY, hash, House.sized(KEY.n.subtract(BigInteger.ONE), k), 5);
        dueTasted(0, "n", KEY, hash, House.sized(KEY.n, k), 5);
        dueTasted(0, "the highest", KEY, hash, House.times(255, k), 5);
    }

    /** A key of so many bits whose n is far above the highest power of 2 in it. */
    private static Keys highKey(int bits) {
        for (int seed = 0; seed < 1000; seed++) {
            Keys key = new Keys(bits, 17, seed);
            if (key.n.testBit(bits - 2)) {
                return key;
            }
        }
        throw new IllegalStateException("no such key was found");
    }

    /** A salted row that is still below n when bit B, one above all that it may have, is set; as a number. */
    private static BigInteger roomAbove(Keys key, int hash) {
        int bits = key.n.bitLength();
        for (int seed = 0; seed < 1000; seed++) {
            BigInteger row = new BigInteger(1, Pads.salted(hash, bits, MESSAGE, Pads.random(seed, 5)));
            if (row.setBit(bits - 1).compareTo(key.n) < 0) {
                return row;
            }
        }
        throw new IllegalStateException("no such row was found");
    }

    private static void tastedHighest(int hash) {
        CHECK.sentence("RAISED it is below 2^(8 E) and, as E BYTES, V | U | 188");
        Keys key = highKey(593);
        BigInteger row = roomAbove(key, hash);
        CHECK.due("the test's own, K", 75, key.length());
        CHECK.due("the test's own, E", 74, bytesOf(593));
        dueTasted(1, "below", key, hash, key.lowered(House.sized(row, 75)), 5);
        dueTasted(0, "2^(8 E) more", key, hash, key.lowered(House.sized(row.setBit(592), 75)), 5);
    }

    private static void tastedEnd(int hash) {
        CHECK.sentence("as E BYTES, V | U | 188");
        for (int bits : new int[] {593, 594, 600}) {
            Keys key = new Keys(bits, 17, bits);
            byte[] row = Pads.salted(hash, bits, MESSAGE, FIVE);
            for (int last : new int[] {0, 60, 187, 188, 189, 255}) {
                row[row.length - 1] = (byte) last;
                dueTasted(last == 188 ? 1 : 0, "ends with " + last, key, hash, key.lowered(row), 5);
            }
        }
    }

    private static void tastedLeast(int hash) {
        CHECK.sentence("E is H + x + 2 at least");
        int least = Pads.length(hash) + 2;
        for (int bits = 8 * least - 7; bits <= 8 * least + 18; bits++) {
            Keys key = new Keys(bits, 17, bits);
            int most = bytesOf(bits) - least;
            for (int x = 0; x < 4; x++) {
                byte[] row = x <= most ? key.lowered(Pads.salted(hash, bits, MESSAGE, Pads.random(x, x)))
                        : key.lowered(House.sized(BigInteger.valueOf(188), key.length()));
                dueTasted(x <= most ? 1 : 0, "E " + bytesOf(bits), key, hash, row, x);
            }
        }
        CHECK.sentence("TASTED, for a salt of x BYTES: 1, 0.");
        for (int bits = 57; bits < 8 * least; bits += 13) {
            Keys key = new Keys(bits, 17, bits);
            for (int x : new int[] {0, 1, 255, 256}) {
                dueTasted(0, "a short key", key, hash, key.lowered(House.sized(BigInteger.valueOf(188), key.length())), x);
                dueTasted(0, "a short key, 0s", key, hash, new byte[key.length()], x);
            }
        }
    }

    private static void tastedBits(int hash) {
        CHECK.sentence("the highest 8 E - B bits of V are 0");
        for (int bits = 594; bits <= 600; bits++) {
            Keys key = highKey(bits);
            BigInteger row = roomAbove(key, hash);
            dueTasted(1, "all 0", key, hash, key.lowered(House.sized(row, 75)), 5);
            dueTasted(0, "the lowest of them 1", key, hash, key.lowered(House.sized(row.setBit(bits - 1), 75)), 5);
            dueTasted(0, "the bit below bent", key, hash, key.lowered(House.sized(row.flipBit(bits - 2), 75)), 5);
        }
    }

    private static void tastedZeros(int hash) {
        CHECK.sentence("D = V ^ MASK (U, E - H - 1), these bits made 0, is 0s | 1 | X");
        byte[] u = Pads.proof(hash, MESSAGE, FIVE);
        for (int bits : new int[] {593, 594, 597, 600}) {
            Keys key = new Keys(bits, 17, bits);
            int zeros = bytesOf(bits) - Pads.length(hash) - 2 - 5;
            byte[] good = Model.join(new byte[zeros], House.bytes(1), FIVE);
            dueTasted(1, "as it is", key, hash, key.lowered(Pads.sealed(hash, bits, good, u)), 5);
            for (int place = 0; place < zeros; place++) {
                byte[] bad = good.clone();
                bad[place] = 1;
                dueTasted(0, "a 1 at " + place, key, hash, key.lowered(Pads.sealed(hash, bits, bad, u)), 5);
            }
            for (int one : new int[] {0, 2, 3, 129, 255}) {
                byte[] bad = good.clone();
                bad[zeros] = (byte) one;
                dueTasted(0, "a " + one + " for the 1", key, hash, key.lowered(Pads.sealed(hash, bits, bad, u)), 5);
            }
            dueTasted(0, "0s alone", key, hash, key.lowered(Pads.sealed(hash, bits, new byte[good.length], u)), 5);
        }
    }

    private static void tastedSalt(int hash) {
        CHECK.sentence("is 0s | 1 | X with x BYTES of X");
        for (int bits : new int[] {593, 594, 600}) {
            Keys key = new Keys(bits, 17, bits);
            int most = bytesOf(bits) - Pads.length(hash) - 2;
            for (int count : new int[] {0, 1, 2, most - 1, most}) {
                for (int fill : new int[] {0, 1, 255}) {
                    byte[] row = key.lowered(Pads.salted(hash, bits, MESSAGE, House.times(fill, count)));
                    for (int x : new int[] {count - 2, count - 1, count, count + 1, count + 2, 256}) {
                        if (x >= 0) {
                            dueTasted(x == count ? 1 : 0, "salted with " + count, key, hash, row, x);
                        }
                    }
                }
            }
        }
    }

    private static void tastedProof(int hash) {
        CHECK.sentence("U is DIGEST (eight 0s | DIGEST M | X): 1; else 0.");
        int bits = 597;
        int zeros = bytesOf(bits) - Pads.length(hash) - 2 - 5;
        byte[] good = Model.join(new byte[zeros], House.bytes(1), FIVE);
        byte[] digest = Model.digest(hash, MESSAGE);
        for (int count = 7; count <= 9; count++) {
            byte[] u = Model.digest(hash, Model.join(new byte[count], digest, FIVE));
            dueTasted(count == 8 ? 1 : 0, count + " 0s", KEY, hash, KEY.lowered(Pads.sealed(hash, bits, good, u)), 5);
        }
        byte[] u = Model.digest(hash, Model.join(new byte[8], MESSAGE, FIVE));
        dueTasted(0, "M itself", KEY, hash, KEY.lowered(Pads.sealed(hash, bits, good, u)), 5);
        u = Model.digest(hash, Model.join(new byte[8], digest));
        dueTasted(0, "no X", KEY, hash, KEY.lowered(Pads.sealed(hash, bits, good, u)), 5);
        for (int place = 0; place < Pads.length(hash); place++) {
            u = Pads.proof(hash, MESSAGE, FIVE);
            u[place] ^= 1;
            dueTasted(0, "byte " + place + " bent", KEY, hash, KEY.lowered(Pads.sealed(hash, bits, good, u)), 5);
        }
        byte[] row = KEY.lowered(Pads.salted(hash, bits, MESSAGE, FIVE));
        House h = new House().put(M, 1, 2).put(SIGNED, row).put(OUT, 1, 2, 3, 0);
        KEY.open(h);
        CHECK.due("a message of a byte less", 0, h.seal.taste(0, hash, M, SIGNED, 5));
        CHECK.due("a message of a byte more", 0, h.seal.taste(0, hash, OUT, SIGNED, 5));
        CHECK.due("the other hash", 0, h.seal.taste(0, 1 - hash, M, SIGNED, 5));
    }

    private static void otherSalt(int hash) {
        CHECK.sentence("IllegalArgumentException: also x is not 0 to 256.");
        Keys shortKey = new Keys(64, 17, 1);
        for (Keys key : new Keys[] {KEY, shortKey}) {
            byte[] row = key == KEY ? key.lowered(Pads.salted(hash, 597, MESSAGE, NONE)) : new byte[8];
            House h = new House().put(M, MESSAGE).put(SIGNED, row);
            key.open(h);
            for (int x : new int[] {Integer.MIN_VALUE, -2, -1, 257, 258, Integer.MAX_VALUE}) {
                CHECK.dueArgument("x " + x, () -> h.seal.taste(0, hash, M, SIGNED, x));
                CHECK.dueArgument("x " + x + " of nothing", () -> h.seal.taste(0, hash, 9, 9, x));
            }
            CHECK.due("x 0", key == KEY ? 1 : 0, h.seal.taste(0, hash, M, SIGNED, 0));
            for (int x : new int[] {1, 255, 256}) {
                CHECK.due("x " + x, 0, h.seal.taste(0, hash, M, SIGNED, x));
            }
        }
    }
}
