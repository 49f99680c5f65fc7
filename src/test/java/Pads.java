import java.math.BigInteger;
import java.util.Random;

/** The rows that are raised or lowered, made by hand, so that tests can bend them one byte at a time. */
final class Pads {
    private static final int[][] NAMES = {
        {48, 49, 48, 13, 6, 9, 96, 134, 72, 1, 101, 3, 4, 2, 1, 5, 0, 4, 32},
        {48, 45, 48, 13, 6, 9, 96, 134, 72, 1, 101, 3, 4, 2, 4, 5, 0, 4, 28}
    };

    private Pads() {
    }

    static byte[] random(long seed, int count) {
        byte[] row = new byte[count];
        new Random(seed).nextBytes(row);
        return row;
    }

    /** Bytes of chance without a 0. */
    static byte[] filling(long seed, int count) {
        byte[] row = random(seed, count);
        for (int k = 0; k < count; k++) {
            row[k] = row[k] == 0 ? 1 : row[k];
        }
        return row;
    }

    static int length(int hash) {
        return hash == 0 ? 32 : 28;
    }

    static byte[] hidden(int hash, int k, byte[] message, byte[] label, byte[] seed) {
        int h = length(hash);
        byte[] middle = new byte[k - 2 * h - 2 - message.length];
        return masked(hash, 0, Model.join(Model.digest(hash, label), middle, House.bytes(1), message), seed);
    }

    /** The row that is raised, from its highest byte and the data block before it is masked. */
    static byte[] masked(int hash, int highest, byte[] data, byte[] seed) {
        byte[] v = Model.xor(data, Model.mask(hash, seed, data.length));
        return Model.join(House.bytes(highest), Model.xor(seed, Model.mask(hash, v, seed.length)), v);
    }

    static byte[] signed(int hash, int k, byte[] message) {
        byte[] tail = Model.join(House.bytes(0), House.bytes(NAMES[hash]), Model.digest(hash, message));
        return Model.join(House.bytes(0, 1), House.times(255, k - 2 - tail.length), tail);
    }

    static byte[] salted(int hash, int bits, byte[] message, byte[] salt) {
        byte[] u = proof(hash, message, salt);
        byte[] d = Model.join(new byte[(bits + 6) / 8 - length(hash) - 2 - salt.length], House.bytes(1), salt);
        return sealed(hash, bits, d, u);
    }

    static byte[] proof(int hash, byte[] message, byte[] salt) {
        return Model.digest(hash, Model.join(new byte[8], Model.digest(hash, message), salt));
    }

    /** The row that is lowered, of K bytes, from D before it is masked and U, for an n of so many bits. */
    static byte[] sealed(int hash, int bits, byte[] d, byte[] u) {
        byte[] v = Model.xor(d, Model.mask(hash, u, d.length));
        byte[] all = Model.join(v, u, House.bytes(188));
        return House.sized(new BigInteger(1, all).mod(BigInteger.TWO.pow(bits - 1)), (bits + 7) / 8);
    }
}
