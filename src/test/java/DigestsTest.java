import java.nio.charset.StandardCharsets;
import java.util.Arrays;
import java.util.Random;

/** Promises 14 and 15: digest, mask. */
final class DigestsTest {
    private static final Check CHECK = new Check();

    public static void main(String[] args) {
        published();
        allLengths();
        digestWrong();
        mask();
        maskWrong();
        CHECK.end();
    }

    private static void dueDigest(int hash, byte[] row, String want) {
        House h = new House().put(0, row);
        CHECK.due("14: H", want.length() / 2, h.seal.digest(hash, 0, 1));
        CHECK.holds("14: the published digest " + want, h.has(1, House.hex(want)));
    }

    private static void published() {
        byte[] abc = "abc".getBytes(StandardCharsets.ISO_8859_1);
        byte[] two = "abcdbcdecdefdefgefghfghighijhijkijkljklmklmnlmnomnopnopq".getBytes(StandardCharsets.ISO_8859_1);
        dueDigest(0, abc, "ba7816bf8f01cfea414140de5dae2223b00361a396177a9cb410ff61f20015ad");
        dueDigest(0, two, "248d6a61d20638b8e5c026930c3e6039a33ce45964ff2167f6ecedd419db06c1");
        dueDigest(0, new byte[0], "e3b0c44298fc1c149afbf4c8996fb92427ae41e4649b934ca495991b7852b855");
        dueDigest(1, abc, "23097d223405d8228642a477bda255b32aadbce4bda0b3f7e36c9da7");
        dueDigest(1, two, "75388b16512776cc5dba5da1fd890150b0c6455cb4f58b1952522525");
        dueDigest(1, new byte[0], "d14a028c2a3a2bc9476102bb288234c415a2b01f828ea62ac5b3e42f");
    }

    private static void allLengths() {
        Random random = new Random(14);
        for (int n = 0; n <= 256; n++) {
            byte[] row = new byte[n];
            random.nextBytes(row);
            House h = new House().put(0, row);
            CHECK.due("14: H", 32, h.seal.digest(0, 0, 1));
            CHECK.due("14: H", 28, h.seal.digest(1, 0, 0));
            CHECK.holds("14: SHA-256 of " + n + " bytes", h.has(1, Model.digest(0, row)));
            CHECK.holds("14: SHA-224 of " + n + " bytes, onto itself", h.has(0, Model.digest(1, row)));
        }
    }

    private static void digestWrong() {
        House h = new House().put(0, 5).put(1, 6);
        SealHouse x = h.seal;
        CHECK.dueArgument("14: hash 2", () -> x.digest(2, 0, 1));
        CHECK.dueArgument("14: hash -1", () -> x.digest(-1, 0, 1));
        CHECK.dueIndex("14: from", () -> x.digest(0, -1, 1));
        CHECK.dueIndex("14: to", () -> x.digest(0, 0, 24));
        CHECK.dueIndex("14: the slot first", () -> x.digest(2, 24, 1));
        CHECK.holds("14: nothing changed", h.has(1, House.bytes(6)));
    }

    private static void mask() {
        Random random = new Random(15);
        for (int n = 0; n <= 256; n++) {
            byte[] row = new byte[n % 5 == 0 ? 256 : random.nextInt(257)];
            random.nextBytes(row);
            House h = new House().put(0, row);
            CHECK.due("15: n", n, h.seal.mask(0, 0, n, 1));
            CHECK.due("15: n", n, h.seal.mask(1, 0, n, 0));
            CHECK.holds("15: SHA-256, " + n, h.has(1, Model.mask(0, row, n)));
            CHECK.holds("15: SHA-224, " + n + ", onto itself", h.has(0, Model.mask(1, row, n)));
        }
        House h = new House().put(0, 102, 111, 111);
        h.seal.mask(0, 0, 33, 1);
        byte[] ahead = Model.digest(0, House.bytes(102, 111, 111, 0, 0, 0, 0));
        byte[] behind = Model.digest(0, House.bytes(102, 111, 111, 0, 0, 0, 1));
        CHECK.holds("15: in plain words", h.has(1, Model.join(ahead, Arrays.copyOf(behind, 1))));
    }

    private static void maskWrong() {
        House h = new House().put(0, 5).put(1, 6);
        SealHouse x = h.seal;
        CHECK.dueArgument("15: hash 2", () -> x.mask(2, 0, 1, 1));
        CHECK.dueArgument("15: hash -1", () -> x.mask(-1, 0, 1, 1));
        CHECK.dueArgument("15: n 257", () -> x.mask(0, 0, 257, 1));
        CHECK.dueArgument("15: n -1", () -> x.mask(0, 0, -1, 1));
        CHECK.dueArgument("15: n far away", () -> x.mask(1, 0, Integer.MAX_VALUE, 1));
        CHECK.dueIndex("15: from", () -> x.mask(0, 24, 1, 1));
        CHECK.dueIndex("15: to", () -> x.mask(0, 0, 1, -1));
        CHECK.dueIndex("15: the slot first", () -> x.mask(2, 0, 257, 24));
        CHECK.holds("15: nothing changed", h.has(1, House.bytes(6)));
        CHECK.due("15: none", 0, x.mask(0, 0, 0, 1));
        CHECK.due("15: none", 0, x.size(1));
    }
}
