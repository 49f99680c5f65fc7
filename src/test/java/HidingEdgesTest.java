import java.math.BigInteger;
import java.util.Arrays;

/** Each sentence of terms 5 on hiding and of promises 20 to 23 that names an edge, at the edge and on both its sides. */
final class HidingEdgesTest {
    private static final Check CHECK = new Check();
    private static final int M = 0;
    private static final int LABEL = 1;
    private static final int SEED = 2;
    private static final int OUT = 3;
    /** The slot of calls that come before the one that is looked at, lest it find all as new. */
    private static final int BEFORE = 9;
    private static final byte[] KEPT = {0, 9};
    private static final byte[] NONE = {};
    /** Its n has 600 bits less 3: what is made with it has room for n once more in its 75 bytes. */
    private static final Keys KEY = new Keys(597, 17, 20);
    /** The same of 20 bytes, for the older filling. */
    private static final Keys SHORT = new Keys(157, 17, 20);

    public static void main(String[] args) {
        for (int hash = 0; hash < 2; hash++) {
            hiddenZeros(hash);
            longMessage(hash);
            otherSeed(hash);
            hideOrder(hash);
            shownLength(hash);
            shownBelow(hash);
            shownLeastKey(hash);
            shownHighest(hash);
            shownDigest(hash);
            shownOne(hash);
            shownAnything(hash);
            showOpen(hash);
        }
        filledLengths();
        longFilled();
        otherFilling();
        fillingWithZero();
        fillOrder();
        emptiedLength();
        emptiedBelow();
        emptiedLeastKey();
        emptiedHead();
        emptiedFilling();
        emptiedEnd();
        emptyOpen();
        CHECK.end();
    }

    private static byte[] random(int seed, int count) {
        return Pads.random(seed, count);
    }

    private static void dueHidden(int want, Keys key, int hash, byte[] message, byte[] label, byte[] seed) {
        for (int open = 0; open < 2; open++) {
            House h = new House().put(M, message).put(LABEL, label).put(SEED, seed).put(OUT, KEPT);
            CHECK.due("the key", 0, open == 0 ? key.whole(h) : key.open(h));
            String name = "hash " + hash + ", K " + key.length() + ", a message of " + message.length + ", a label of "
                    + label.length + ", a seed of " + seed.length;
            h.seal.hide(0, hash, BEFORE, SEED, SEED, BEFORE);
            h.seal.mask(hash, SEED, 256, BEFORE);
            CHECK.due(name, want, h.seal.hide(0, hash, M, LABEL, SEED, OUT));
            byte[] left = want < 0 ? KEPT : key.raised(Pads.hidden(hash, key.length(), message, label, seed));
            CHECK.holds(name + ": what stands there", h.has(OUT, left));
        }
    }

    private static void hiddenZeros(int hash) {
        CHECK.sentence("D = DIGEST L | as many 0s as are needed | 1 | M, of K - H - 1 BYTES");
        int most = KEY.length() - 2 * Pads.length(hash) - 2;
        byte[] seed = random(1, Pads.length(hash));
        for (int count : new int[] {0, 1, most - 1, most}) {
            for (int label : new int[] {0, 1, 255, 256}) {
                dueHidden(KEY.length(), KEY, hash, random(count, count), random(label + 1, label), seed);
                dueHidden(KEY.length(), KEY, hash, new byte[count], new byte[label], seed);
            }
        }
        dueHidden(KEY.length(), KEY, hash, House.times(1, most), NONE, new byte[seed.length]);
        dueHidden(KEY.length(), KEY, hash, House.times(255, most), NONE, House.times(255, seed.length));
    }

    private static void longMessage(int hash) {
        CHECK.sentence("-3: M has more than K - 2 H - 2 BYTES");
        int least = 2 * Pads.length(hash) + 2;
        byte[] seed = random(1, Pads.length(hash));
        for (int k : new int[] {8, least - 2, least - 1, least, least + 1, least + 2, 127, 128}) {
            Keys key = new Keys(8 * k - 2, 17, k);
            for (int count : new int[] {0, 1, 2, k - least - 1, k - least, k - least + 1, k, 256}) {
                if (count >= 0) {
                    dueHidden(count <= k - least ? k : -3, key, hash, random(count, count), NONE, seed);
                }
            }
        }
    }

    private static void otherSeed(int hash) {
        CHECK.sentence("-4: S has not H BYTES.");
        int h = Pads.length(hash);
        for (int count : new int[] {0, 1, 27, 28, 29, 31, 32, 33, 255, 256}) {
            dueHidden(count == h ? KEY.length() : -4, KEY, hash, random(5, 3), NONE, random(count, count));
        }
    }

    private static void hideOrder(int hash) {
        CHECK.sentence("HIDDEN comes to a SLOT: K, or why not (-3, -4 in this order).");
        int most = KEY.length() - 2 * Pads.length(hash) - 2;
        byte[] seed = random(1, Pads.length(hash));
        dueHidden(KEY.length(), KEY, hash, random(1, most), NONE, seed);
        dueHidden(-3, KEY, hash, random(1, most + 1), NONE, seed);
        dueHidden(-4, KEY, hash, random(1, most), NONE, NONE);
        dueHidden(-3, KEY, hash, random(1, most + 1), NONE, NONE);
        dueHidden(-3, new Keys(64, 17, 1), hash, NONE, NONE, NONE);
    }

    /** Shows a row by a whole key, with an empty label. */
    private static void dueShown(int want, String name, Keys key, int hash, byte[] row) {
        House h = new House().put(SEED, row).put(OUT, KEPT);
        key.whole(h);
        String all = name + ", hash " + hash + ", K " + key.length();
        CHECK.due(all, want, h.seal.show(0, hash, SEED, LABEL, OUT));
        CHECK.due(all + ": how many bytes stand there", want < 0 ? 2 : want, h.seal.size(OUT));
        CHECK.holds(all + ": the row stays", h.has(SEED, row));
    }

    /** A hidden row whose first byte is 0. */
    private static byte[] hiddenWithZero(int hash) {
        for (int seed = 0; seed < 100000; seed++) {
            byte[] row = KEY.raised(Pads.hidden(hash, KEY.length(), House.bytes(1, 2, 3), NONE,
                    random(seed, Pads.length(hash))));
            if (row[0] == 0) {
                return row;
            }
        }
        throw new IllegalStateException("no such row was found");
    }

    private static void shownLength(int hash) {
        CHECK.sentence("SHOWN: the ROW has K BYTES");
        byte[] row = hiddenWithZero(hash);
        dueShown(3, "K bytes", KEY, hash, row);
        dueShown(-5, "the same number of a byte less", KEY, hash, Arrays.copyOfRange(row, 1, row.length));
        dueShown(-5, "the same number of a byte more", KEY, hash, Model.join(House.bytes(0), row));
        dueShown(-5, "the same number of 256 bytes", KEY, hash, Model.join(new byte[256 - row.length], row));
        dueShown(-5, "a byte behind", KEY, hash, Model.join(row, House.bytes(0)));
        dueShown(-5, "none", KEY, hash, NONE);
    }

    private static void shownBelow(int hash) {
        CHECK.sentence("SHOWN: the ROW has K BYTES, its NUMBER is below n");
        byte[] row = KEY.raised(Pads.hidden(hash, KEY.length(), House.bytes(1, 2, 3), NONE, random(1, Pads.length(hash))));
        BigInteger number = new BigInteger(1, row);
        int k = KEY.length();
        dueShown(3, "below n", KEY, hash, row);
        dueShown(-5, "n more", KEY, hash, House.sized(number.add(KEY.n), k));
        dueShown(-5, "twice n more", KEY, hash, House.sized(number.add(KEY.n).add(KEY.n), k));
        dueShown(-5, "n less 1", KEY, hash, House.sized(KEY.n.subtract(BigInteger.ONE), k));
        dueShown(-5, "n", KEY, hash, House.sized(KEY.n, k));
        dueShown(-5, "n and 1", KEY, hash, House.sized(KEY.n.add(BigInteger.ONE), k));
        dueShown(-5, "the highest", KEY, hash, House.times(255, k));
    }

    private static void shownLeastKey(int hash) {
        CHECK.sentence("K is 2 H + 2 at least");
        int h = Pads.length(hash);
        for (int k = 8; k < 2 * h + 2; k++) {
            Keys key = new Keys(8 * k - 2, 17, k);
            dueShown(-5, "0s", key, hash, new byte[k]);
            dueShown(-5, "a 1", key, hash, House.sized(BigInteger.ONE, k));
            dueShown(-5, "something below n", key, hash, House.sized(key.n.subtract(BigInteger.TWO), k));
        }
        // What would be shown if the last byte, the 1, were not asked for.
        Keys less = new Keys(8 * (2 * h + 1) - 2, 17, 1);
        dueShown(-5, "a digest alone", less, hash,
                less.raised(Pads.masked(hash, 0, Model.digest(hash, NONE), random(1, h))));
        for (int k = 2 * h + 2; k < 2 * h + 5; k++) {
            Keys key = new Keys(8 * k - 2, 17, k);
            byte[] message = random(k, k - 2 * h - 2);
            dueShown(message.length, "the longest", key, hash,
                    key.raised(Pads.hidden(hash, k, message, NONE, random(1, h))));
            dueShown(0, "none", key, hash, key.raised(Pads.hidden(hash, k, NONE, NONE, random(1, h))));
        }
    }

    /** D from the digest on: what is told, and 0s before it. */
    private static byte[] data(int hash, int... tail) {
        byte[] digest = Model.digest(hash, NONE);
        byte[] zeros = new byte[KEY.length() - 2 * digest.length - 1 - tail.length];
        return Model.join(digest, zeros, House.bytes(tail));
    }

    private static void shownHighest(int hash) {
        CHECK.sentence("LOWERED it is 0 | T | V (T of H BYTES)");
        byte[] seed = random(3, Pads.length(hash));
        dueShown(2, "0 ahead", KEY, hash, KEY.raised(Pads.masked(hash, 0, data(hash, 1, 8, 9), seed)));
        for (int highest = 1; highest < House.sized(KEY.n, KEY.length())[0]; highest++) {
            dueShown(-5, highest + " ahead", KEY, hash,
                    KEY.raised(Pads.masked(hash, highest, data(hash, 1, 8, 9), seed)));
        }
    }

    private static void shownDigest(int hash) {
        CHECK.sentence("its first H BYTES are DIGEST L");
        byte[] seed = random(3, Pads.length(hash));
        int h = Pads.length(hash);
        for (int place = 0; place <= h; place++) {
            for (int bit : new int[] {1, 128}) {
                byte[] d = data(hash, 1, 8, 9);
                d[place] ^= (byte) (place < h ? bit : 0);
                dueShown(place < h ? -5 : 2, "byte " + place + " bent", KEY, hash,
                        KEY.raised(Pads.masked(hash, 0, d, seed)));
            }
        }
        byte[] hidden = KEY.raised(Pads.hidden(hash, KEY.length(), House.bytes(7), House.bytes(0), seed));
        House house = new House().put(LABEL, 0).put(SEED, hidden).put(4, 0, 0).put(5, 1);
        KEY.whole(house);
        CHECK.due("with its label", 1, house.seal.show(0, hash, SEED, LABEL, OUT));
        CHECK.due("with a label of a byte less", -5, house.seal.show(0, hash, SEED, M, OUT));
        CHECK.due("with a label of a byte more", -5, house.seal.show(0, hash, SEED, 4, OUT));
        CHECK.due("with a label of another byte", -5, house.seal.show(0, hash, SEED, 5, OUT));
        CHECK.due("with the other hash", -5, house.seal.show(0, 1 - hash, SEED, LABEL, OUT));
    }

    private static void shownOne(int hash) {
        CHECK.sentence("then 0s (or none) and a 1: what is behind that is M.");
        byte[] seed = random(3, Pads.length(hash));
        int room = KEY.length() - 2 * Pads.length(hash) - 1;
        int[] tail = new int[room];
        for (int place = 0; place < room; place++) {
            for (int first : new int[] {1, 2, 128, 129, 255}) {
                Arrays.fill(tail, 0);
                Arrays.fill(tail, place, room, 1);
                tail[place] = first;
                dueShown(first == 1 ? room - place - 1 : -5, first + " behind " + place + " 0s", KEY, hash,
                        KEY.raised(Pads.masked(hash, 0, data(hash, tail), seed)));
            }
        }
        dueShown(-5, "0s and no 1", KEY, hash, KEY.raised(Pads.masked(hash, 0, data(hash), seed)));
        byte[] message = random(9, room - 1);
        message[0] = 0;
        House house = new House().put(SEED, KEY.raised(Pads.hidden(hash, KEY.length(), message, NONE, seed)));
        KEY.whole(house);
        CHECK.due("a message that begins with 0", message.length, house.seal.show(0, hash, SEED, LABEL, OUT));
        CHECK.holds("a message that begins with 0", house.has(OUT, message));
    }

    private static void shownAnything(int hash) {
        CHECK.sentence("If anything of this isn't so: -5, without why.");
        byte[] seed = random(3, Pads.length(hash));
        byte[] good = KEY.raised(Pads.hidden(hash, KEY.length(), House.bytes(7), NONE, seed));
        dueShown(1, "as it is", KEY, hash, good);
        for (int place = 0; place < good.length; place++) {
            byte[] bad = good.clone();
            bad[place] ^= 1;
            dueShown(-5, "byte " + place + " bent", KEY, hash, bad);
        }
        dueShown(-5, "0s", KEY, hash, new byte[KEY.length()]);
    }

    private static void showOpen(int hash) {
        CHECK.sentence("SHOWN comes to a SLOT: how many BYTES M has; -2: the KEY is open; -5.");
        byte[] hidden = KEY.raised(Pads.hidden(hash, KEY.length(), House.bytes(7), NONE, random(3, Pads.length(hash))));
        House house = new House().put(SEED, hidden).put(OUT, KEPT);
        KEY.open(house);
        CHECK.due("what could be shown", -2, house.seal.show(0, hash, SEED, LABEL, OUT));
        CHECK.due("none", -2, house.seal.show(0, hash, LABEL, LABEL, OUT));
        new Keys(64, 17, 1).open(house);
        CHECK.due("a short key", -2, house.seal.show(1, hash, SEED, LABEL, OUT));
        CHECK.holds("nothing changed", house.has(OUT, KEPT));
        KEY.whole(house);
        CHECK.due("a whole key", 1, house.seal.show(2, hash, SEED, LABEL, OUT));
        CHECK.due("none", -5, house.seal.show(2, hash, LABEL, LABEL, OUT));
    }

    private static void dueFilled(int want, Keys key, byte[] message, byte[] filling) {
        for (int open = 0; open < 2; open++) {
            House h = new House().put(M, message).put(SEED, filling).put(OUT, KEPT);
            CHECK.due("the key", 0, open == 0 ? key.whole(h) : key.open(h));
            String name = "K " + key.length() + ", a message of " + message.length + ", a filling of " + filling.length;
            h.seal.mask(0, SEED, 256, BEFORE);
            CHECK.due(name, want, h.seal.fill(0, M, SEED, OUT));
            byte[] left = want < 0 ? KEPT : key.raised(filled(filling, message));
            CHECK.holds(name + ": what stands there", h.has(OUT, left));
        }
    }

    private static byte[] filled(byte[] filling, byte[] message) {
        return Model.join(House.bytes(0, 2), filling, House.bytes(0), message);
    }

    private static void filledLengths() {
        CHECK.sentence("FILLED from M and a filling F: 0 | 2 | F | 0 | M, of K BYTES, RAISED.");
        for (int k : new int[] {11, 12, 20, 128}) {
            Keys key = new Keys(8 * k - 2, 17, k);
            for (int count : new int[] {0, 1, k - 12, k - 11}) {
                if (count >= 0 && count <= k - 11) {
                    dueFilled(k, key, random(count, count), Pads.filling(count, k - 3 - count));
                    dueFilled(k, key, new byte[count], House.times(255, k - 3 - count));
                }
            }
        }
    }

    private static void longFilled() {
        CHECK.sentence("-3: M has more than K - 11");
        for (int k = 8; k <= 14; k++) {
            Keys key = new Keys(8 * k - 2, 17, k);
            for (int count = 0; count < 8; count++) {
                boolean fits = count <= k - 11;
                dueFilled(fits ? k : -3, key, random(count, count), Pads.filling(count, Math.max(0, k - 3 - count)));
            }
            dueFilled(-3, key, new byte[256], NONE);
        }
        Keys longest = new Keys(1024, 17, 3);
        dueFilled(128, longest, random(1, 116), Pads.filling(1, 9));
        dueFilled(128, longest, random(1, 117), Pads.filling(1, 8));
        dueFilled(-3, longest, random(1, 118), Pads.filling(1, 7));
    }

    private static void otherFilling() {
        CHECK.sentence("-4: F has not K - 3 less M's BYTES");
        for (int count : new int[] {0, 1, 8, 9}) {
            int due = SHORT.length() - 3 - count;
            for (int filling : new int[] {0, 1, 7, 8, due - 1, due, due + 1, 20, 256}) {
                dueFilled(filling == due ? 20 : -4, SHORT, random(1, count), Pads.filling(filling, filling));
            }
        }
    }

    private static void fillingWithZero() {
        CHECK.sentence("F has not K - 3 less M's BYTES, or has a 0.");
        for (int place = 0; place < 14; place++) {
            for (int value : new int[] {0, 1, 255}) {
                byte[] filling = Pads.filling(3, 14);
                filling[place] = (byte) value;
                dueFilled(value == 0 ? -4 : 20, SHORT, House.bytes(0, 0, 0), filling);
            }
        }
        dueFilled(-4, SHORT, House.bytes(0, 0, 0), new byte[14]);
    }

    private static void fillOrder() {
        CHECK.sentence("FILLED comes to a SLOT: K, or why not (-3, -4).");
        dueFilled(20, SHORT, random(1, 9), Pads.filling(1, 8));
        dueFilled(-4, SHORT, random(1, 9), new byte[8]);
        dueFilled(-4, SHORT, random(1, 9), NONE);
        dueFilled(-3, SHORT, random(1, 10), new byte[7]);
        dueFilled(-3, SHORT, random(1, 10), NONE);
        dueFilled(-3, new Keys(64, 17, 1), NONE, NONE);
    }

    private static void dueEmptied(int want, String name, Keys key, byte[] row) {
        House h = new House().put(SEED, row).put(OUT, KEPT);
        key.whole(h);
        CHECK.due(name + ", K " + key.length(), want, h.seal.empty(0, SEED, OUT));
        byte[] low = key.lowered(row);
        byte[] left = want < 0 ? KEPT : Arrays.copyOfRange(low, low.length - want, low.length);
        CHECK.holds(name + ": what stands there", h.has(OUT, left));
        CHECK.holds(name + ": the row stays", h.has(SEED, row));
    }

    private static void emptiedLength() {
        CHECK.sentence("EMPTIED: K BYTES");
        byte[] row;
        int seed = 0;
        do {
            seed++;
            row = SHORT.raised(filled(Pads.filling(seed, 14), House.bytes(7, 8, 9)));
        } while (row[0] != 0);
        dueEmptied(3, "K bytes", SHORT, row);
        dueEmptied(-5, "the same number of a byte less", SHORT, Arrays.copyOfRange(row, 1, row.length));
        dueEmptied(-5, "the same number of a byte more", SHORT, Model.join(House.bytes(0), row));
        dueEmptied(-5, "the same number of 256 bytes", SHORT, Model.join(new byte[236], row));
        dueEmptied(-5, "a byte behind", SHORT, Model.join(row, House.bytes(0)));
        dueEmptied(-5, "none", SHORT, NONE);
    }

    private static void emptiedBelow() {
        CHECK.sentence("EMPTIED: K BYTES, below n");
        byte[] row = SHORT.raised(filled(Pads.filling(1, 14), House.bytes(7, 8, 9)));
        BigInteger number = new BigInteger(1, row);
        dueEmptied(3, "below n", SHORT, row);
        dueEmptied(-5, "n more", SHORT, House.sized(number.add(SHORT.n), 20));
        dueEmptied(-5, "twice n more", SHORT, House.sized(number.add(SHORT.n).add(SHORT.n), 20));
        dueEmptied(-5, "n less 1", SHORT, House.sized(SHORT.n.subtract(BigInteger.ONE), 20));
        dueEmptied(-5, "n", SHORT, House.sized(SHORT.n, 20));
        dueEmptied(-5, "n and 1", SHORT, House.sized(SHORT.n.add(BigInteger.ONE), 20));
        dueEmptied(-5, "the highest", SHORT, House.times(255, 20));
    }

    private static void emptiedLeastKey() {
        CHECK.sentence("EMPTIED: K BYTES, below n, K 11 at least");
        for (int k = 8; k <= 12; k++) {
            Keys key = new Keys(8 * k - 2, 17, k);
            dueEmptied(k < 11 ? -5 : 0, "no message", key, key.raised(filled(Pads.filling(k, k - 3), NONE)));
            dueEmptied(k < 12 ? -5 : 1, "a byte", key, key.raised(filled(Pads.filling(k, k - 4), House.bytes(5))));
            dueEmptied(-5, "all filling", key, key.raised(Model.join(House.bytes(0, 2), Pads.filling(k, k - 2))));
            dueEmptied(-5, "0s", key, new byte[k]);
        }
    }

    private static void emptiedHead() {
        CHECK.sentence("LOWERED it is 0 | 2 |");
        byte[] good = filled(Pads.filling(1, 14), House.bytes(7, 8, 9));
        for (int first = 0; first < House.sized(SHORT.n, 20)[0]; first++) {
            for (int second : new int[] {0, 1, 2, 3, 130, 255}) {
                byte[] row = good.clone();
                row[0] = (byte) first;
                row[1] = (byte) second;
                dueEmptied(first == 0 && second == 2 ? 3 : -5, first + ", " + second, SHORT, SHORT.raised(row));
            }
        }
    }

    private static void emptiedFilling() {
        CHECK.sentence("8 or more BYTES that are not 0");
        for (int count = 0; count <= 17; count++) {
            byte[] row = filled(Pads.filling(1, count), Pads.filling(2, 17 - count));
            dueEmptied(count < 8 ? -5 : 17 - count, count + " bytes", SHORT, SHORT.raised(row));
            byte[] edge = filled(House.times(255, count), new byte[17 - count]);
            dueEmptied(count < 8 ? -5 : 17 - count, count + " 255s and 0s", SHORT, SHORT.raised(edge));
        }
        dueEmptied(-5, "a 0 as the eighth of fourteen", SHORT,
                SHORT.raised(filled(Model.join(Pads.filling(1, 7), House.bytes(0), Pads.filling(1, 6)), random(1, 3))));
        dueEmptied(9, "a 0 as the ninth of fourteen", SHORT,
                SHORT.raised(filled(Model.join(Pads.filling(1, 8), House.bytes(0), Pads.filling(1, 5)), random(1, 3))));
    }

    private static void emptiedEnd() {
        CHECK.sentence("8 or more BYTES that are not 0 | 0 | M; else -5.");
        dueEmptied(-5, "no 0", SHORT, SHORT.raised(Model.join(House.bytes(0, 2), Pads.filling(1, 18))));
        dueEmptied(0, "a 0 at the end", SHORT, SHORT.raised(filled(Pads.filling(1, 17), NONE)));
        dueEmptied(1, "a 0 before the end", SHORT, SHORT.raised(filled(Pads.filling(1, 16), House.bytes(0))));
        dueEmptied(9, "the longest message", SHORT, SHORT.raised(filled(Pads.filling(1, 8), random(1, 9))));
        for (int place = 0; place < 20; place++) {
            byte[] row = SHORT.raised(filled(Pads.filling(1, 8), random(1, 9)));
            row[place] ^= 1;
            dueEmptied(-5, "byte " + place + " bent", SHORT, row);
        }
    }

    private static void emptyOpen() {
        CHECK.sentence("EMPTIED comes to a SLOT: how many BYTES M has; -2; -5.");
        House house = new House().put(SEED, SHORT.raised(filled(Pads.filling(1, 8), random(1, 9)))).put(OUT, KEPT);
        SHORT.open(house);
        CHECK.due("what could be emptied", -2, house.seal.empty(0, SEED, OUT));
        CHECK.due("none", -2, house.seal.empty(0, LABEL, OUT));
        new Keys(64, 17, 1).open(house);
        CHECK.due("a short key", -2, house.seal.empty(1, SEED, OUT));
        CHECK.holds("nothing changed", house.has(OUT, KEPT));
        SHORT.whole(house);
        CHECK.due("a whole key", 9, house.seal.empty(2, SEED, OUT));
        CHECK.due("none", -5, house.seal.empty(2, LABEL, OUT));
    }
}
