import java.util.Arrays;

/** Each sentence of terms 3 and of promises 14 and 15 that names an edge, at the edge and on both its sides. */
final class DigestEdgesTest {
    private static final Check CHECK = new Check();
    /** Where a block ends, where its end has no room left for the length, and both once, twice and so on. */
    private static final int[] LENGTHS = {0, 1, 51, 52, 53, 54, 55, 56, 57, 59, 60, 61, 63, 64, 65, 115, 116, 117, 118,
        119, 120, 121, 123, 124, 125, 127, 128, 129, 182, 183, 184, 187, 188, 191, 192, 193, 243, 244, 246, 247, 248, 251,
        252, 253, 254, 255, 256};

    public static void main(String[] args) {
        digestLengths();
        rowLengths();
        digestHashes();
        maskNumbers();
        maskRows();
        maskHashes();
        maskLengths();
        CHECK.end();
    }

    private static void digestLengths() {
        CHECK.sentence("DIGESTS (hash 0: SHA-256, 32 BYTES; 1: SHA-224, 28 BYTES) of a ROW");
        for (int before : new int[] {0, 27, 28, 29, 31, 32, 33, 256}) {
            for (int hash = 0; hash < 2; hash++) {
                House h = new House().put(0, 7).put(1, new byte[before]);
                CHECK.due("H of " + hash, hash == 0 ? 32 : 28, h.seal.digest(hash, 0, 1));
                CHECK.due("size, after " + before, hash == 0 ? 32 : 28, h.seal.size(1));
                CHECK.holds("the digest", h.has(1, Model.digest(hash, House.bytes(7))));
            }
        }
    }

    private static void rowLengths() {
        CHECK.sentence("of a ROW, as the published FIPS 180-4 has them.");
        for (int hash = 0; hash < 2; hash++) {
            for (int count : LENGTHS) {
                for (byte[] row : new byte[][] {new byte[count], House.times(255, count), Pads.random(count, count)}) {
                    House h = new House().put(0, row);
                    h.seal.digest(hash, 0, 1);
                    CHECK.holds(hash + " of " + count + " bytes", h.has(1, Model.digest(hash, row)));
                    CHECK.holds("the row stays", h.has(0, row));
                }
            }
        }
    }

    private static void digestHashes() {
        CHECK.sentence("DIGEST of a SLOT (hash 0, 1) comes to a SLOT: H. IllegalArgumentException: another hash");
        House h = new House().put(0, 7).put(1, 0, 9);
        for (int hash : new int[] {Integer.MIN_VALUE, -1, 2, 3, 224, 256, Integer.MAX_VALUE}) {
            CHECK.dueArgument("hash " + hash, () -> h.seal.digest(hash, 0, 1));
        }
        CHECK.holds("nothing changed", h.has(1, House.bytes(0, 9)));
        CHECK.due("hash 0", 32, h.seal.digest(0, 0, 1));
        CHECK.due("hash 1", 28, h.seal.digest(1, 0, 1));
    }

    private static void maskNumbers() {
        CHECK.sentence("the first n BYTES of DIGEST (ROW, 0, 0, 0, 0), DIGEST (ROW, 0, 0, 0, 1), and so on");
        byte[] row = Pads.random(15, 40);
        for (int hash = 0; hash < 2; hash++) {
            byte[] all = {};
            for (int number = 0; number < 10; number++) {
                all = Model.join(all, Model.digest(hash, Model.join(row, House.bytes(0, 0, 0, number))));
            }
            int h = Pads.length(hash);
            for (int times = 0; times <= 256 / h + 1; times++) {
                for (int n = Math.max(0, times * h - 1); n <= Math.min(256, times * h + 1); n++) {
                    House house = new House().put(0, row).put(1, new byte[256]);
                    CHECK.due(n + " bytes", n, house.seal.mask(hash, 0, n, 1));
                    CHECK.holds(n + " bytes", house.has(1, Arrays.copyOf(all, n)));
                }
            }
            House house = new House().put(0, row);
            CHECK.due("256 bytes", 256, house.seal.mask(hash, 0, 256, 1));
            CHECK.holds("256 bytes", house.has(1, Arrays.copyOf(all, 256)));
        }
    }

    private static void maskRows() {
        CHECK.sentence("(the ROW with a number of four BYTES, the highest first, behind it)");
        for (int hash = 0; hash < 2; hash++) {
            for (int count : LENGTHS) {
                byte[] row = Pads.random(count + 1, count);
                House h = new House().put(0, row);
                h.seal.mask(hash, 0, 80, 1);
                CHECK.holds(hash + " of " + count + " bytes", h.has(1, Model.mask(hash, row, 80)));
                CHECK.holds("the row stays", h.has(0, row));
            }
        }
    }

    private static void maskHashes() {
        CHECK.sentence("MASK of a SLOT and n comes to a SLOT: n.");
        House h = new House().put(0, 7).put(1, 0, 9);
        for (int hash : new int[] {Integer.MIN_VALUE, -1, 2, 3, Integer.MAX_VALUE}) {
            CHECK.dueArgument("hash " + hash, () -> h.seal.mask(hash, 0, 5, 1));
            CHECK.dueArgument("hash " + hash + ", n 0", () -> h.seal.mask(hash, 0, 0, 1));
        }
        CHECK.holds("nothing changed", h.has(1, House.bytes(0, 9)));
        CHECK.due("hash 0", 5, h.seal.mask(0, 0, 5, 1));
        CHECK.due("hash 1", 5, h.seal.mask(1, 0, 5, 1));
    }

    private static void maskLengths() {
        CHECK.sentence("IllegalArgumentException: also n is not 0 to 256.");
        for (int hash = 0; hash < 2; hash++) {
            int told = hash;
            for (int count : new int[] {0, 1, 256}) {
                House h = new House().put(0, Pads.random(count, count)).put(1, 0, 9);
                for (int n : new int[] {Integer.MIN_VALUE, -2, -1, 257, 258, 512, Integer.MAX_VALUE}) {
                    CHECK.dueArgument("n " + n, () -> h.seal.mask(told, 0, n, 1));
                }
                CHECK.holds("nothing changed", h.has(1, House.bytes(0, 9)));
                for (int n : new int[] {0, 1, 255, 256}) {
                    CHECK.due("n " + n, n, h.seal.mask(told, 0, n, 1));
                    CHECK.holds("n " + n, h.has(1, Model.mask(hash, Pads.random(count, count), n)));
                }
            }
        }
    }
}
