import java.math.BigInteger;
import java.util.ArrayList;
import java.util.Arrays;
import java.util.List;

/** A house of which each slot, the tape and each key is known, so that it is seen if a call has changed one. */
final class Known {
    /** These two are overwritten when the house is looked through; no more than a few bytes stand in them. */
    private static final int SPARE = 22;
    private static final int ASIDE = House.ASIDE;

    final House h = new House();
    final SealHouse seal = h.seal;
    private final byte[][] rows = new byte[24][0];
    private final List<BigInteger[]> keys = new ArrayList<>();
    private byte[] tape = {};

    /** Each slot gets a row of its own, with a 0 ahead: as a number it would be put without. */
    Known() {
        for (int slot = 0; slot < rows.length; slot++) {
            put(slot, 0, 100 + slot);
        }
    }

    Known put(int slot, byte[] row) {
        h.put(slot, row);
        rows[slot] = row.clone();
        return this;
    }

    Known put(int slot, int... row) {
        return put(slot, House.bytes(row));
    }

    Known put(int slot, BigInteger number) {
        return put(slot, House.fewest(number));
    }

    Known feed(int bytes) {
        tape = Pads.random(bytes, bytes);
        h.feedAll(tape);
        return this;
    }

    Known whole(Keys key) {
        put(20, key.p).put(21, key.q).put(22, key.e);
        seal.key(20, 21, 22);
        keys.add(key.parts());
        return this;
    }

    Known open(Keys key) {
        put(20, key.n).put(22, key.e);
        seal.open(20, 22);
        keys.add(new BigInteger[] {key.n, key.e});
        return this;
    }

    /** What is not as it was put here, or nothing. The house can't be looked through twice. */
    String changed() {
        if (seal.keys() != keys.size()) {
            return "there are " + seal.keys() + " keys";
        }
        for (int slot : new int[] {SPARE, ASIDE}) {
            if (!Arrays.equals(h.row(slot), rows[slot])) {
                return "slot " + slot;
            }
        }
        if (!isTapeKept()) {
            return "the tape";
        }
        for (int slot = 0; slot < SPARE; slot++) {
            if (!h.has(slot, rows[slot])) {
                return "slot " + slot;
            }
        }
        for (int key = 0; key < keys.size(); key++) {
            for (int what = 0; what < keys.get(key).length; what++) {
                seal.part(key, what, SPARE);
                if (!h.has(SPARE, keys.get(key)[what])) {
                    return "part " + what + " of key " + key;
                }
            }
        }
        return "";
    }

    /** A full tape has four bytes more than a row can take; they are seen by the next feed alone. */
    private boolean isTapeKept() {
        int room = Math.min(tape.length, 256);
        int more = tape.length + 20 > 260 ? -1 : tape.length + 20;
        if (seal.feed(0, 0, 0, 0, 0) != more) {
            return false;
        }
        seal.load(SPARE, room);
        return h.has(SPARE, Arrays.copyOf(tape, room));
    }
}
