import java.math.BigInteger;
import java.util.Arrays;

/** A SealHouse with ways to put rows in and look at them that keep to its 512 calls. */
final class House {
    /** The slot that holds what a row is compared with. */
    static final int ASIDE = 23;

    final SealHouse seal = new SealHouse();
    private int used = 0;

    /** Only what goes through this helper is counted; the calls that a test makes itself are few. */
    private void count(int calls) {
        used += calls;
        if (used > 512) {
            throw new IllegalStateException("the test asks more of one object than the document promises");
        }
    }

    House put(int slot, byte[] row) {
        feedAll(row);
        count(1);
        seal.load(slot, row.length);
        return this;
    }

    House put(int slot, int... row) {
        return put(slot, bytes(row));
    }

    House put(int slot, BigInteger number) {
        return put(slot, fewest(number));
    }

    void feedAll(byte[] row) {
        for (int from = 0; from < row.length; from += 20) {
            count(1);
            seal.feed(word(row, from), word(row, from + 4), word(row, from + 8), word(row, from + 12),
                    word(row, from + 16));
        }
    }

    byte[] row(int slot) {
        byte[] row = new byte[seal.size(slot)];
        count(1 + row.length);
        for (int k = 0; k < row.length; k++) {
            row[k] = (byte) seal.octet(slot, k);
        }
        return row;
    }

    BigInteger number(int slot) {
        return new BigInteger(1, row(slot));
    }

    /** Whether a slot has just these bytes: as many, and the same number. Empties the tape. */
    boolean has(int slot, byte[] row) {
        count(2);
        if (seal.size(slot) != row.length) {
            return false;
        }
        put(ASIDE, row);
        return seal.compare(slot, ASIDE) == 0;
    }

    boolean has(int slot, BigInteger number) {
        return has(slot, fewest(number));
    }

    static int word(byte[] row, int from) {
        int word = 0;
        for (int k = from; k < from + 4; k++) {
            word = word << 8 | (k < row.length ? row[k] & 255 : 0);
        }
        return word;
    }

    static byte[] bytes(int... values) {
        byte[] row = new byte[values.length];
        for (int k = 0; k < values.length; k++) {
            row[k] = (byte) values[k];
        }
        return row;
    }

    static byte[] times(int value, int count) {
        byte[] row = new byte[count];
        Arrays.fill(row, (byte) value);
        return row;
    }

    static byte[] hex(String text) {
        byte[] row = new byte[text.length() / 2];
        for (int k = 0; k < row.length; k++) {
            row[k] = (byte) Integer.parseInt(text.substring(2 * k, 2 * k + 2), 16);
        }
        return row;
    }

    static byte[] fewest(BigInteger number) {
        return sized(number, (number.bitLength() + 7) / 8);
    }

    static byte[] sized(BigInteger number, int count) {
        byte[] plain = number.toByteArray();
        byte[] row = new byte[count];
        for (int k = 0; k < count && k < plain.length; k++) {
            row[count - 1 - k] = plain[plain.length - 1 - k];
        }
        return row;
    }
}
