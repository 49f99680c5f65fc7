import java.io.ByteArrayOutputStream;
import java.math.BigInteger;
import java.security.MessageDigest;
import java.security.NoSuchAlgorithmException;
import java.util.ArrayList;
import java.util.Arrays;
import java.util.List;

/** The document's words once more, on Java's own big numbers and digests: what the class is held against. */
final class Model {
    static final BigInteger ZERO = BigInteger.ZERO;
    static final BigInteger ONE = BigInteger.ONE;
    static final BigInteger TWO = BigInteger.TWO;
    private static final int[] BASES = {2, 3, 5, 7, 11, 13, 17, 19, 23, 29, 31, 37};
    private static final int[][] NAMES = {
        {48, 49, 48, 13, 6, 9, 96, 134, 72, 1, 101, 3, 4, 2, 1, 5, 0, 4, 32},
        {48, 45, 48, 13, 6, 9, 96, 134, 72, 1, 101, 3, 4, 2, 4, 5, 0, 4, 28}
    };

    final byte[][] slots = new byte[24][0];
    final List<BigInteger[]> keys = new ArrayList<>();
    private byte[] tape = {};

    static byte[] join(byte[]... rows) {
        ByteArrayOutputStream all = new ByteArrayOutputStream();
        for (byte[] row : rows) {
            all.writeBytes(row);
        }
        return all.toByteArray();
    }

    static byte[] digest(int hash, byte[] row) {
        try {
            return MessageDigest.getInstance(hash == 0 ? "SHA-256" : "SHA-224").digest(row);
        } catch (NoSuchAlgorithmException none) {
            throw new IllegalStateException(none);
        }
    }

    static byte[] mask(int hash, byte[] row, int n) {
        byte[] all = {};
        for (int k = 0; all.length < n; k++) {
            all = join(all, digest(hash, join(row, House.sized(BigInteger.valueOf(k), 4))));
        }
        return Arrays.copyOf(all, n);
    }

    static byte[] xor(byte[] a, byte[] b) {
        byte[] mixed = new byte[a.length];
        for (int k = 0; k < a.length; k++) {
            mixed[k] = (byte) (a[k] ^ b[k]);
        }
        return mixed;
    }

    static boolean isProbable(BigInteger n) {
        if (n.bitLength() > 512) {
            return false;
        }
        if (n.compareTo(BigInteger.valueOf(37)) <= 0) {
            return Arrays.stream(BASES).anyMatch(w -> w == n.intValue());
        }
        if (!n.testBit(0)) {
            return false;
        }
        BigInteger less = n.subtract(ONE);
        int s = less.getLowestSetBit();
        BigInteger t = less.shiftRight(s);
        for (int w : BASES) {
            BigInteger left = BigInteger.valueOf(w).modPow(t, n);
            boolean held = left.equals(ONE) || left.equals(less);
            for (int k = 1; k < s && !held; k++) {
                left = left.multiply(left).mod(n);
                held = left.equals(less);
            }
            if (!held) {
                return false;
            }
        }
        return true;
    }

    static BigInteger lcm(BigInteger a, BigInteger b) {
        return a.signum() == 0 || b.signum() == 0 ? ZERO : a.divide(a.gcd(b)).multiply(b);
    }

    static BigInteger number(byte[] row) {
        return new BigInteger(1, row);
    }

    static int bytesOf(BigInteger number) {
        return (number.bitLength() + 7) / 8;
    }

    private static boolean common(BigInteger a, BigInteger b) {
        return a.gcd(b).compareTo(ONE) > 0;
    }

    private void checkSlots(int... told) {
        for (int slot : told) {
            if (slot < 0 || slot > 23) {
                throw new IndexOutOfBoundsException();
            }
        }
    }

    private BigInteger[] checkKey(int key) {
        if (key < 0 || key >= keys.size()) {
            throw new IndexOutOfBoundsException();
        }
        return keys.get(key);
    }

    private static void check(boolean fine) {
        if (!fine) {
            throw new IllegalArgumentException();
        }
    }

    private int put(int to, byte[] row) {
        slots[to] = row;
        return row.length;
    }

    int feed(int a, int b, int c, int d, int e) {
        if (tape.length > 240) {
            return -1;
        }
        for (int word : new int[] {a, b, c, d, e}) {
            tape = join(tape, House.bytes(word >>> 24, word >>> 16, word >>> 8, word));
        }
        return tape.length;
    }

    int load(int slot, int n) {
        checkSlots(slot);
        check(n >= 0 && n <= tape.length && n <= 256);
        put(slot, Arrays.copyOf(tape, n));
        tape = new byte[0];
        return 0;
    }

    int size(int slot) {
        checkSlots(slot);
        return slots[slot].length;
    }

    int octet(int slot, int k) {
        checkSlots(slot);
        return k >= 0 && k < slots[slot].length ? slots[slot][k] & 255 : -1;
    }

    int cut(int from, int i, int n, int to) {
        checkSlots(from, to);
        check(i >= 0 && n >= 0 && (long) i + n <= slots[from].length);
        return put(to, Arrays.copyOfRange(slots[from], i, i + n));
    }

    int join(int a, int b, int to) {
        checkSlots(a, b, to);
        byte[] row = join(slots[a], slots[b]);
        return row.length > 256 ? -4 : put(to, row);
    }

    int change(int slot, int k, int v) {
        int had = octet(slot, k);
        check(had >= 0);
        slots[slot] = slots[slot].clone();
        slots[slot][k] = (byte) v;
        return had;
    }

    int calc(int what, int slotA, int slotB, int slotC, int to) {
        checkSlots(slotA, slotB, slotC, to);
        check(what >= 0 && what <= 8);
        BigInteger a = number(slots[slotA]);
        BigInteger b = number(slots[slotB]);
        BigInteger c = number(slots[slotC]);
        if (what == 1 && a.compareTo(b) < 0) {
            return -1;
        }
        if ((what == 3 || what == 4 || what == 7) && b.signum() == 0 || what == 8 && c.signum() == 0) {
            return -2;
        }
        if (what == 7 && !a.gcd(b).equals(ONE)) {
            return -3;
        }
        if (what == 8 && bytesOf(c) > 128) {
            return -4;
        }
        BigInteger found = switch (what) {
            case 0 -> a.add(b);
            case 1 -> a.subtract(b);
            case 2 -> a.multiply(b);
            case 3 -> a.divide(b);
            case 4 -> a.mod(b);
            case 5 -> a.gcd(b);
            case 6 -> lcm(a, b);
            case 7 -> a.modInverse(b);
            default -> a.modPow(b, c);
        };
        return bytesOf(found) > 256 ? -4 : put(to, House.fewest(found));
    }

    int compare(int a, int b) {
        checkSlots(a, b);
        return number(slots[a]).compareTo(number(slots[b]));
    }

    int bits(int slot) {
        checkSlots(slot);
        return number(slots[slot]).bitLength();
    }

    int probable(int slot) {
        checkSlots(slot);
        return isProbable(number(slots[slot])) ? 1 : 0;
    }

    int next(int from, int to) {
        checkSlots(from, to);
        BigInteger n = number(slots[from]);
        if (bytesOf(n) > 64) {
            return -4;
        }
        for (int k = 0; k < 2000; k++) {
            n = n.add(ONE);
            if (isProbable(n)) {
                return put(to, House.fewest(n));
            }
        }
        return -1;
    }

    int digest(int hash, int from, int to) {
        checkSlots(from, to);
        check(hash == 0 || hash == 1);
        return put(to, digest(hash, slots[from]));
    }

    int mask(int hash, int from, int n, int to) {
        checkSlots(from, to);
        check((hash == 0 || hash == 1) && n >= 0 && n <= 256);
        return put(to, mask(hash, slots[from], n));
    }

    int key(int slotP, int slotQ, int slotE) {
        checkSlots(slotP, slotQ, slotE);
        BigInteger p = number(slots[slotP]);
        BigInteger q = number(slots[slotQ]);
        BigInteger e = number(slots[slotE]);
        BigInteger n = p.multiply(q);
        if (bytesOf(n) < 8 || bytesOf(n) > 128) {
            return -1;
        }
        if (!isProbable(p) || !isProbable(q) || p.equals(TWO) || q.equals(TWO)) {
            return -2;
        }
        if (common(p, q)) {
            return -3;
        }
        if (!e.testBit(0) || e.compareTo(BigInteger.valueOf(3)) < 0 || e.compareTo(n) >= 0) {
            return -4;
        }
        BigInteger lessP = p.subtract(ONE);
        BigInteger lessQ = q.subtract(ONE);
        if (common(e, lessP) || common(e, lessQ)) {
            return -5;
        }
        if (keys.size() == 16) {
            return -6;
        }
        BigInteger d = e.modInverse(lcm(lessP, lessQ));
        keys.add(new BigInteger[] {n, e, d, p, q, d.mod(lessP), d.mod(lessQ), q.modInverse(p)});
        return keys.size() - 1;
    }

    int open(int slotN, int slotE) {
        checkSlots(slotN, slotE);
        BigInteger n = number(slots[slotN]);
        BigInteger e = number(slots[slotE]);
        if (bytesOf(n) < 8 || bytesOf(n) > 128) {
            return -1;
        }
        if (!e.testBit(0) || e.compareTo(BigInteger.valueOf(3)) < 0 || e.compareTo(n) >= 0 || !n.testBit(0)) {
            return -4;
        }
        if (keys.size() == 16) {
            return -6;
        }
        keys.add(new BigInteger[] {n, e});
        return keys.size() - 1;
    }

    int part(int key, int what, int to) {
        BigInteger[] told = checkKey(key);
        checkSlots(to);
        check(what >= 0 && what <= 7);
        return what >= told.length ? -2 : put(to, House.fewest(told[what]));
    }

    static byte[] raised(BigInteger[] key, byte[] row) {
        return House.sized(number(row).modPow(key[1], key[0]), bytesOf(key[0]));
    }

    static byte[] lowered(BigInteger[] key, byte[] row) {
        return House.sized(number(row).modPow(key[2], key[0]), bytesOf(key[0]));
    }

    int turn(int key, int how, int from, int to) {
        BigInteger[] told = checkKey(key);
        checkSlots(from, to);
        check(how == 0 || how == 1);
        if (how == 1 && told.length == 2) {
            return -2;
        }
        if (number(slots[from]).compareTo(told[0]) >= 0) {
            return -1;
        }
        return put(to, how == 0 ? raised(told, slots[from]) : lowered(told, slots[from]));
    }

    int hide(int key, int hash, int message, int label, int seed, int to) {
        BigInteger[] told = checkKey(key);
        checkSlots(message, label, seed, to);
        check(hash == 0 || hash == 1);
        int k = bytesOf(told[0]);
        int h = hash == 0 ? 32 : 28;
        byte[] m = slots[message];
        byte[] s = slots[seed];
        if (m.length > k - 2 * h - 2) {
            return -3;
        }
        if (s.length != h) {
            return -4;
        }
        byte[] d = join(digest(hash, slots[label]), new byte[k - 2 * h - 2 - m.length], House.bytes(1), m);
        byte[] v = xor(d, mask(hash, s, k - h - 1));
        byte[] t = xor(s, mask(hash, v, h));
        return put(to, raised(told, join(House.bytes(0), t, v)));
    }

    int show(int key, int hash, int from, int label, int to) {
        BigInteger[] told = checkKey(key);
        checkSlots(from, label, to);
        check(hash == 0 || hash == 1);
        int k = bytesOf(told[0]);
        int h = hash == 0 ? 32 : 28;
        if (told.length == 2) {
            return -2;
        }
        if (slots[from].length != k || number(slots[from]).compareTo(told[0]) >= 0 || k < 2 * h + 2) {
            return -5;
        }
        byte[] low = lowered(told, slots[from]);
        byte[] v = Arrays.copyOfRange(low, 1 + h, k);
        byte[] s = xor(Arrays.copyOfRange(low, 1, 1 + h), mask(hash, v, h));
        byte[] d = xor(v, mask(hash, s, k - h - 1));
        int one = h;
        while (one < d.length && d[one] == 0) {
            one++;
        }
        if (low[0] != 0 || !Arrays.equals(Arrays.copyOf(d, h), digest(hash, slots[label])) || one == d.length
                || d[one] != 1) {
            return -5;
        }
        return put(to, Arrays.copyOfRange(d, one + 1, d.length));
    }

    int fill(int key, int message, int filling, int to) {
        BigInteger[] told = checkKey(key);
        checkSlots(message, filling, to);
        int k = bytesOf(told[0]);
        byte[] m = slots[message];
        byte[] f = slots[filling];
        if (m.length > k - 11) {
            return -3;
        }
        if (f.length != k - 3 - m.length || indexOf(f, 0, 0) < f.length) {
            return -4;
        }
        return put(to, raised(told, join(House.bytes(0, 2), f, House.bytes(0), m)));
    }

    private static int indexOf(byte[] row, int value, int from) {
        int k = from;
        while (k < row.length && row[k] != value) {
            k++;
        }
        return k;
    }

    int empty(int key, int from, int to) {
        BigInteger[] told = checkKey(key);
        checkSlots(from, to);
        int k = bytesOf(told[0]);
        if (told.length == 2) {
            return -2;
        }
        if (slots[from].length != k || number(slots[from]).compareTo(told[0]) >= 0 || k < 11) {
            return -5;
        }
        byte[] low = lowered(told, slots[from]);
        int end = indexOf(low, 0, 2);
        if (low[0] != 0 || low[1] != 2 || end < 10 || end == k) {
            return -5;
        }
        return put(to, Arrays.copyOfRange(low, end + 1, k));
    }

    private static byte[] signed(int hash, int k, byte[] m) {
        byte[] tail = join(House.bytes(0), House.bytes(NAMES[hash]), digest(hash, m));
        return join(House.bytes(0, 1), House.times(255, k - 2 - tail.length), tail);
    }

    int sign(int key, int hash, int message, int to) {
        BigInteger[] told = checkKey(key);
        checkSlots(message, to);
        check(hash == 0 || hash == 1);
        int k = bytesOf(told[0]);
        if (told.length == 2) {
            return -2;
        }
        if (k < 19 + (hash == 0 ? 32 : 28) + 11) {
            return -6;
        }
        return put(to, lowered(told, signed(hash, k, slots[message])));
    }

    int prove(int key, int hash, int message, int signature) {
        BigInteger[] told = checkKey(key);
        checkSlots(message, signature);
        check(hash == 0 || hash == 1);
        int k = bytesOf(told[0]);
        if (k < 19 + (hash == 0 ? 32 : 28) + 11) {
            return -6;
        }
        byte[] row = slots[signature];
        return row.length == k && number(row).compareTo(told[0]) < 0
                && Arrays.equals(raised(told, row), signed(hash, k, slots[message])) ? 1 : 0;
    }

    int salt(int key, int hash, int message, int salt, int to) {
        BigInteger[] told = checkKey(key);
        checkSlots(message, salt, to);
        check(hash == 0 || hash == 1);
        int h = hash == 0 ? 32 : 28;
        int b = told[0].bitLength() - 1;
        int e = (b + 7) / 8;
        byte[] x = slots[salt];
        if (told.length == 2) {
            return -2;
        }
        if (e < h + x.length + 2) {
            return -6;
        }
        byte[] u = digest(hash, join(new byte[8], digest(hash, slots[message]), x));
        byte[] d = join(new byte[e - h - 2 - x.length], House.bytes(1), x);
        byte[] v = xor(d, mask(hash, u, e - h - 1));
        BigInteger all = number(join(v, u, House.bytes(188)));
        return put(to, lowered(told, House.fewest(all.mod(TWO.pow(b)))));
    }

    int taste(int key, int hash, int message, int signature, int x) {
        BigInteger[] told = checkKey(key);
        checkSlots(message, signature);
        check((hash == 0 || hash == 1) && x >= 0 && x <= 256);
        int h = hash == 0 ? 32 : 28;
        int b = told[0].bitLength() - 1;
        int e = (b + 7) / 8;
        byte[] row = slots[signature];
        if (row.length != bytesOf(told[0]) || number(row).compareTo(told[0]) >= 0 || e < h + x + 2) {
            return 0;
        }
        BigInteger high = number(raised(told, row));
        if (high.bitLength() > b || (high.intValue() & 255) != 188) {
            return 0;
        }
        byte[] all = House.sized(high, e);
        byte[] v = Arrays.copyOf(all, e - h - 1);
        byte[] u = Arrays.copyOfRange(all, e - h - 1, e - 1);
        BigInteger d = number(xor(v, mask(hash, u, v.length))).mod(TWO.pow(b - 8 * (h + 1)));
        byte[] plain = House.sized(d, v.length);
        byte[] salt = Arrays.copyOfRange(plain, plain.length - x, plain.length);
        boolean shaped = d.shiftRight(8 * x).equals(ONE);
        return shaped && Arrays.equals(u, digest(hash, join(new byte[8], digest(hash, slots[message]), salt))) ? 1 : 0;
    }

    int keys() {
        return keys.size();
    }
}
