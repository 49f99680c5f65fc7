import java.math.BigInteger;
import java.security.GeneralSecurityException;
import java.util.Arrays;

/** Promises 24 to 27: sign, prove, salt, taste. */
final class SigningTest {
    private static final Check CHECK = new Check();
    private static final int M = 0;
    private static final int SALT = 1;
    private static final int SIGNED = 2;
    private static final int KEPT = 3;
    private static final int OTHER = 4;

    public static void main(String[] args) throws GeneralSecurityException {
        for (int hash = 0; hash < 2; hash++) {
            signAndProve(hash, 521);
            signAndProve(hash, 1024);
            signEdges(hash);
            proveRefused(hash);
            for (int bits : new int[] {520, 521, 522, 527, 528, 529, 1017, 1023, 1024}) {
                saltAndTaste(hash, bits);
            }
            saltEdges(hash);
            tasteRefused(hash, 528);
            tasteRefused(hash, 529);
            tasteRefused(hash, 530);
        }
        signWrong();
        saltWrong();
        ontoItself();
        CHECK.end();
    }

    private static void signAndProve(int hash, int bits) throws GeneralSecurityException {
        Keys key = new Keys(bits, 65537, bits);
        Jdk jdk = new Jdk(key);
        for (int count : new int[] {0, 1, 64, 256}) {
            byte[] message = Pads.random(count, count);
            House h = new House().put(M, message);
            key.whole(h);
            key.open(h);
            byte[] signed = key.lowered(Pads.signed(hash, key.length(), message));
            String name = hash + ", " + bits + " bits, " + count + " bytes";
            CHECK.holds("24: another signs so, " + name, Arrays.equals(signed, jdk.sign(hash, message)));
            CHECK.due("24: K, " + name, key.length(), h.seal.sign(0, hash, M, SIGNED));
            CHECK.holds("24: signed, " + name, h.has(SIGNED, signed));
            CHECK.due("25: proved, " + name, 1, h.seal.prove(0, hash, M, SIGNED));
            CHECK.due("25: proved with the open key, " + name, 1, h.seal.prove(1, hash, M, SIGNED));
            CHECK.due("25: with the other hash, " + name, 0, h.seal.prove(1, 1 - hash, M, SIGNED));
            CHECK.due("25: another message, " + name, 0, h.seal.prove(1, hash, SIGNED, SIGNED));
        }
    }

    private static void signEdges(int hash) {
        int least = 19 + Pads.length(hash) + 11;
        for (int k = least - 1; k <= least + 1; k++) {
            Keys key = new Keys(8 * k - 3, 17, k);
            House h = new House().put(M, 1, 2, 3).put(SIGNED, 9);
            key.whole(h);
            key.open(h);
            boolean fits = k >= least;
            CHECK.due("24: K of " + k, fits ? k : -6, h.seal.sign(0, hash, M, SIGNED));
            CHECK.due("24: open before short", -2, h.seal.sign(1, hash, M, SIGNED));
            CHECK.due("25: K of " + k, fits ? 1 : -6, h.seal.prove(0, hash, M, SIGNED));
            CHECK.due("25: open, K of " + k, fits ? 1 : -6, h.seal.prove(1, hash, M, SIGNED));
            if (fits) {
                CHECK.holds("24: signed", h.has(SIGNED, key.lowered(Pads.signed(hash, k, House.bytes(1, 2, 3)))));
            } else {
                CHECK.holds("24: -6 changes nothing", h.has(SIGNED, House.bytes(9)));
            }
        }
    }

    private static void dueProved(Keys key, int hash, int want, String what, byte[] block) {
        House h = new House().put(M, 1, 2, 3).put(SIGNED, key.lowered(block));
        key.open(h);
        CHECK.due("25: " + what, want, h.seal.prove(0, hash, M, SIGNED));
        CHECK.holds("25: the row stays, " + what, h.has(SIGNED, key.lowered(block)));
    }

    private static void proveRefused(int hash) {
        Keys key = new Keys(600, 17, 25);
        int k = key.length();
        byte[] good = Pads.signed(hash, k, House.bytes(1, 2, 3));
        dueProved(key, hash, 1, "as it is", good);
        for (int place = 0; place < k; place += 3) {
            byte[] bad = good.clone();
            bad[place] ^= place == 0 ? 1 : 64;
            dueProved(key, hash, 0, "byte " + place, bad);
        }
        byte[] bad = good.clone();
        bad[k - 1] ^= 1;
        dueProved(key, hash, 0, "the last byte", bad);
        // A block with less 255s and something behind the digest is another's way to forge.
        byte[] tail = Arrays.copyOfRange(good, k - Pads.length(hash) - 20, k);
        byte[] forged = Model.join(House.bytes(0, 1), House.times(255, k - 4 - tail.length), tail, House.bytes(7, 7));
        dueProved(key, hash, 0, "something behind", forged);
        byte[] signed = key.lowered(good);
        House h = new House().put(M, 1, 2, 3).put(SIGNED, Model.join(House.bytes(0), signed)).put(KEPT, House.sized(
                new BigInteger(1, signed).add(key.n), k)).put(OTHER, key.n);
        key.whole(h);
        CHECK.due("25: a byte more", 0, h.seal.prove(0, hash, M, SIGNED));
        CHECK.due("25: not below n", 0, h.seal.prove(0, hash, M, KEPT));
        CHECK.due("25: n", 0, h.seal.prove(0, hash, M, OTHER));
        CHECK.due("25: none", 0, h.seal.prove(0, hash, M, 9));
        byte[] message = {0, 0, 0};
        do {
            message[0]++;
            message[1] += message[0] == 0 ? 1 : 0;
            signed = key.lowered(Pads.signed(hash, k, message));
        } while (signed[0] != 0);
        h.put(M, message).put(SIGNED, signed).put(KEPT, Arrays.copyOfRange(signed, 1, k));
        CHECK.due("25: with its 0 ahead", 1, h.seal.prove(0, hash, M, SIGNED));
        CHECK.due("25: without its 0 ahead", 0, h.seal.prove(0, hash, M, KEPT));
    }

    private static void saltAndTaste(int hash, int bits) throws GeneralSecurityException {
        Keys key = new Keys(bits, 65537, bits + 7);
        Jdk jdk = new Jdk(key);
        int most = (bits + 6) / 8 - Pads.length(hash) - 2;
        for (int count : new int[] {0, 1, 20, most - 1, most}) {
            if (count > most) {
                continue;
            }
            byte[] message = Pads.random(count + 1, bits % 257);
            byte[] salt = Pads.random(count + 2, count);
            House h = new House().put(M, message).put(SALT, salt);
            key.whole(h);
            key.open(h);
            String name = hash + ", " + bits + " bits, a salt of " + count;
            byte[] signed = key.lowered(Pads.salted(hash, bits, message, salt));
            CHECK.due("26: K, " + name, key.length(), h.seal.salt(0, hash, M, SALT, SIGNED));
            CHECK.holds("26: salted, " + name, h.has(SIGNED, signed));
            CHECK.holds("26: tasted by another, " + name, jdk.taste(hash, message, signed, count));
            CHECK.due("27: tasted, " + name, 1, h.seal.taste(0, hash, M, SIGNED, count));
            CHECK.due("27: with the open key, " + name, 1, h.seal.taste(1, hash, M, SIGNED, count));
            CHECK.due("27: a longer salt, " + name, 0, h.seal.taste(1, hash, M, SIGNED, count + 1));
            CHECK.due("27: a shorter salt, " + name, 0, h.seal.taste(1, hash, M, SIGNED, Math.max(count - 1, 5)));
            CHECK.due("27: another message, " + name, 0, h.seal.taste(1, hash, SIGNED, SIGNED, count));
            CHECK.due("27: the other hash, " + name, 0, h.seal.taste(1, 1 - hash, M, SIGNED, count));
            h.put(SIGNED, jdk.salt(hash, message, count));
            CHECK.due("27: salted by another, " + name, 1, h.seal.taste(1, hash, M, SIGNED, count));
        }
    }

    private static void saltEdges(int hash) {
        int least = Pads.length(hash) + 2;
        for (int bits = 8 * least - 9; bits <= 8 * least + 11; bits++) {
            Keys key = new Keys(bits, 17, bits);
            House h = new House().put(M, 5).put(KEPT, 6);
            key.whole(h);
            key.open(h);
            int e = (bits + 6) / 8;
            for (int count = 0; count < 3; count++) {
                h.put(SALT, Pads.random(count, count)).put(SIGNED, 6);
                boolean fits = e >= least + count;
                String name = bits + " bits, a salt of " + count;
                CHECK.due("26: " + name, fits ? key.length() : -6, h.seal.salt(0, hash, M, SALT, SIGNED));
                CHECK.due("26: open first, " + name, -2, h.seal.salt(1, hash, M, SALT, KEPT));
                byte[] want = fits ? key.lowered(Pads.salted(hash, bits, House.bytes(5), Pads.random(count, count)))
                        : House.bytes(6);
                CHECK.holds("26: the slot, " + name, h.has(SIGNED, want));
                CHECK.due("27: " + name, fits ? 1 : 0, h.seal.taste(1, hash, M, SIGNED, count));
            }
            h.put(SALT, new byte[256]);
            CHECK.due("26: a salt of 256", -6, h.seal.salt(0, hash, M, SALT, KEPT));
            CHECK.due("27: a salt of 256", 0, h.seal.taste(0, hash, M, SIGNED, 256));
            CHECK.holds("26: nothing changed", h.has(KEPT, House.bytes(6)));
        }
        House h = new House();
        new Keys(64, 3, 5).whole(h);
        h.put(SIGNED, new byte[8]);
        CHECK.due("27: a key far too short", 0, h.seal.taste(0, hash, M, SIGNED, 0));
        CHECK.due("26: a key far too short", -6, h.seal.salt(0, hash, M, SALT, SIGNED));
    }

    private static void dueTasted(Keys key, int hash, int want, String what, byte[] block) {
        House h = new House().put(M, 1, 2, 3).put(SIGNED, key.lowered(block));
        key.open(h);
        String name = what + ", " + key.n.bitLength() + " bits";
        CHECK.due("27: " + name, want, h.seal.taste(0, hash, M, SIGNED, 5));
        CHECK.holds("27: the row stays, " + name, h.has(SIGNED, key.lowered(block)));
    }

    private static void tasteRefused(int hash, int bits) {
        Keys key = new Keys(bits, 17, 27);
        int k = key.length();
        int e = (bits + 6) / 8;
        byte[] message = {1, 2, 3};
        byte[] salt = Pads.random(27, 5);
        byte[] good = Pads.salted(hash, bits, message, salt);
        dueTasted(key, hash, 1, "as it is", good);
        for (int place = k - e + 1; place < k; place++) {
            byte[] bad = good.clone();
            bad[place] ^= 16;
            dueTasted(key, hash, 0, "byte " + place, bad);
        }
        byte[] bad = good.clone();
        bad[k - 1] = (byte) 189;
        dueTasted(key, hash, 0, "a 189", bad);
        BigInteger high = new BigInteger(1, good).setBit(bits - 1);
        if (high.compareTo(key.n) < 0) {
            dueTasted(key, hash, 0, "a bit above B", House.sized(high, k));
        }
        byte[] u = Model.digest(hash, Model.join(new byte[8], Model.digest(hash, message), salt));
        byte[] zeros = new byte[e - Pads.length(hash) - 7];
        dueTasted(key, hash, 1, "by hand", Pads.sealed(hash, bits, Model.join(zeros, House.bytes(1), salt), u));
        dueTasted(key, hash, 0, "a 2", Pads.sealed(hash, bits, Model.join(zeros, House.bytes(2), salt), u));
        dueTasted(key, hash, 0, "a 0", Pads.sealed(hash, bits, Model.join(zeros, House.bytes(0), salt), u));
        dueTasted(key, hash, 0, "a 129", Pads.sealed(hash, bits, Model.join(zeros, House.bytes(129), salt), u));
        zeros[zeros.length - 1] = 1;
        dueTasted(key, hash, 0, "a 1 ahead", Pads.sealed(hash, bits, Model.join(zeros, House.bytes(1), salt), u));
        zeros[zeros.length - 1] = 0;
        zeros[1] = 1;
        dueTasted(key, hash, 0, "a 1 far ahead", Pads.sealed(hash, bits, Model.join(zeros, House.bytes(1), salt), u));
        byte[] seven = Model.digest(hash, Model.join(new byte[7], Model.digest(hash, message), salt));
        dueTasted(key, hash, 0, "seven 0s",
                Pads.sealed(hash, bits, Model.join(new byte[zeros.length], House.bytes(1), salt), seven));
        tasteOthers(key, hash, key.lowered(good));
    }

    private static void tasteOthers(Keys key, int hash, byte[] signed) {
        int k = key.length();
        House h = new House().put(M, 1, 2, 3).put(SIGNED, Model.join(House.bytes(0), signed)).put(OTHER, key.n);
        key.whole(h);
        CHECK.due("27: a byte more", 0, h.seal.taste(0, hash, M, SIGNED, 5));
        CHECK.due("27: n", 0, h.seal.taste(0, hash, M, OTHER, 5));
        CHECK.due("27: none", 0, h.seal.taste(0, hash, M, 9, 5));
        BigInteger above = new BigInteger(1, signed).add(key.n);
        if (above.bitLength() <= 8 * k) {
            h.put(KEPT, House.sized(above, k));
            CHECK.due("27: not below n", 0, h.seal.taste(0, hash, M, KEPT, 5));
        }
        byte[] salt = new byte[5];
        do {
            salt[0]++;
            salt[1] += salt[0] == 0 ? 1 : 0;
            signed = key.lowered(Pads.salted(hash, key.n.bitLength(), House.bytes(1, 2, 3), salt));
        } while (signed[0] != 0);
        h.put(SIGNED, signed).put(KEPT, Arrays.copyOfRange(signed, 1, k));
        CHECK.due("27: with its 0 ahead", 1, h.seal.taste(0, hash, M, SIGNED, 5));
        CHECK.due("27: without its 0 ahead", 0, h.seal.taste(0, hash, M, KEPT, 5));
    }

    private static void signWrong() {
        House h = new House().put(KEPT, 4);
        SealHouse x = h.seal;
        CHECK.dueIndex("24: no key", () -> x.sign(0, 0, M, KEPT));
        CHECK.dueIndex("25: no key", () -> x.prove(0, 0, M, SIGNED));
        new Keys(600, 17, 25).open(h);
        CHECK.due("24: open", -2, x.sign(0, 0, M, KEPT));
        CHECK.dueIndex("24: key -1", () -> x.sign(-1, 0, M, KEPT));
        CHECK.dueIndex("24: key 1, before the hash", () -> x.sign(1, 2, M, KEPT));
        CHECK.dueIndex("24: message", () -> x.sign(0, 0, 24, KEPT));
        CHECK.dueIndex("24: to", () -> x.sign(0, 0, M, -1));
        CHECK.dueArgument("24: hash 2, before open", () -> x.sign(0, 2, M, KEPT));
        CHECK.dueArgument("24: hash -1", () -> x.sign(0, -1, M, KEPT));
        CHECK.dueIndex("25: key 1", () -> x.prove(1, 2, M, SIGNED));
        CHECK.dueIndex("25: message", () -> x.prove(0, 0, -1, SIGNED));
        CHECK.dueIndex("25: signature", () -> x.prove(0, 2, M, 24));
        CHECK.dueArgument("25: hash 2", () -> x.prove(0, 2, M, SIGNED));
        CHECK.dueArgument("25: hash -1", () -> x.prove(0, -1, M, SIGNED));
        new Keys(64, 3, 5).open(h);
        CHECK.dueArgument("25: hash 2, before -6", () -> x.prove(1, 2, M, SIGNED));
        CHECK.due("25: -6", -6, x.prove(1, 0, M, SIGNED));
        CHECK.holds("24: nothing changed", h.has(KEPT, House.bytes(4)));
    }

    private static void saltWrong() {
        House h = new House().put(KEPT, 4);
        SealHouse x = h.seal;
        CHECK.dueIndex("26: no key", () -> x.salt(0, 0, M, SALT, KEPT));
        CHECK.dueIndex("27: no key", () -> x.taste(0, 0, M, SIGNED, 0));
        new Keys(600, 17, 25).open(h);
        CHECK.due("26: open", -2, x.salt(0, 0, M, SALT, KEPT));
        CHECK.dueIndex("26: key 1, before the hash", () -> x.salt(1, 2, M, SALT, KEPT));
        CHECK.dueIndex("26: message", () -> x.salt(0, 0, 24, SALT, KEPT));
        CHECK.dueIndex("26: salt", () -> x.salt(0, 0, M, -1, KEPT));
        CHECK.dueIndex("26: to", () -> x.salt(0, 2, M, SALT, 24));
        CHECK.dueArgument("26: hash 2, before open", () -> x.salt(0, 2, M, SALT, KEPT));
        CHECK.dueArgument("26: hash -1", () -> x.salt(0, -1, M, SALT, KEPT));
        CHECK.dueIndex("27: key 1", () -> x.taste(1, 2, M, SIGNED, 0));
        CHECK.dueIndex("27: message", () -> x.taste(0, 0, 24, SIGNED, 0));
        CHECK.dueIndex("27: signature", () -> x.taste(0, 2, M, -1, 257));
        CHECK.dueArgument("27: hash 2", () -> x.taste(0, 2, M, SIGNED, 0));
        CHECK.dueArgument("27: hash -1", () -> x.taste(0, -1, M, SIGNED, 0));
        CHECK.dueArgument("27: x 257", () -> x.taste(0, 0, M, SIGNED, 257));
        CHECK.dueArgument("27: x -1", () -> x.taste(0, 0, M, SIGNED, -1));
        CHECK.dueArgument("27: x far away", () -> x.taste(0, 0, M, SIGNED, Integer.MAX_VALUE));
        CHECK.due("27: x 256", 0, x.taste(0, 0, M, SIGNED, 256));
        CHECK.holds("26: nothing changed", h.has(KEPT, House.bytes(4)));
    }

    private static void ontoItself() {
        Keys key = new Keys(1024, 65537, 24);
        byte[] row = Pads.random(24, 20);
        House h = new House().put(M, row).put(SALT, row);
        key.whole(h);
        CHECK.due("24: onto the message", 128, h.seal.sign(0, 0, M, M));
        CHECK.holds("24: onto the message", h.has(M, key.lowered(Pads.signed(0, 128, row))));
        CHECK.due("26: all slots one", 128, h.seal.salt(0, 1, SALT, SALT, SALT));
        CHECK.holds("26: all slots one", h.has(SALT, key.lowered(Pads.salted(1, 1024, row, row))));
        h.put(M, row);
        CHECK.due("27: of it", 1, h.seal.taste(0, 1, M, SALT, 20));
    }
}
