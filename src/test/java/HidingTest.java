import java.math.BigInteger;
import java.security.GeneralSecurityException;
import java.util.Arrays;

/** Promises 20 to 23: hide, show, fill, empty. */
final class HidingTest {
    private static final Check CHECK = new Check();
    private static final int M = 0;
    private static final int LABEL = 1;
    private static final int SEED = 2;
    private static final int OUT = 3;
    private static final int KEPT = 4;
    private static final int BACK = 5;

    public static void main(String[] args) throws GeneralSecurityException {
        for (int hash = 0; hash < 2; hash++) {
            hideAndShow(hash, 536);
            hideAndShow(hash, 529);
            hideAndShow(hash, 1023);
            hideAndShow(hash, 1024);
            hideEdges(hash);
            showRefused(hash);
        }
        hideWrong();
        showWrong();
        hideOntoItself();
        fillAndEmpty(512);
        fillAndEmpty(521);
        fillAndEmpty(1024);
        fillEdges();
        emptyRefused();
        fillWrong();
        CHECK.end();
    }

    private static void hideAndShow(int hash, int bits) throws GeneralSecurityException {
        Keys key = new Keys(bits, 65537, bits);
        Jdk jdk = new Jdk(key);
        int k = key.length();
        int most = k - 2 * Pads.length(hash) - 2;
        for (int count = 0; count <= most; count += count < 2 || count >= most - 2 ? 1 : most - count - 1) {
            byte[] message = Pads.random(count, count);
            byte[] label = Pads.random(count + 1, count % 3 * 7);
            byte[] seed = Pads.random(count + 2, Pads.length(hash));
            House h = new House().put(M, message).put(LABEL, label).put(SEED, seed).put(OUT, 1);
            key.whole(h);
            key.open(h);
            String name = hash + ", " + bits + " bits, " + count + " bytes";
            CHECK.due("20: K, " + name, k, h.seal.hide(1, hash, M, LABEL, SEED, OUT));
            byte[] hidden = key.raised(Pads.hidden(hash, k, message, label, seed));
            CHECK.holds("20: hidden, " + name, h.has(OUT, hidden));
            CHECK.holds("20: shown by another, " + name, Arrays.equals(message, jdk.show(hash, label, hidden)));
            CHECK.due("21: length, " + name, count, h.seal.show(0, hash, OUT, LABEL, OUT));
            CHECK.holds("21: shown, " + name, h.has(OUT, message));
            h.put(OUT, jdk.hide(hash, label, message));
            CHECK.due("21: hidden by another, " + name, count, h.seal.show(0, hash, OUT, LABEL, BACK));
            CHECK.holds("21: hidden by another, " + name, h.has(BACK, message));
        }
    }

    private static void hideEdges(int hash) {
        int least = 2 * Pads.length(hash) + 2;
        for (int k = least - 1; k <= least + 1; k++) {
            Keys key = new Keys(8 * k, 3, k);
            House h = new House().put(SEED, Pads.random(k, Pads.length(hash))).put(KEPT, 6).put(OUT, 7, 7);
            key.whole(h);
            for (int count = 0; count < 3; count++) {
                h.put(M, Pads.random(count, count));
                boolean fits = count <= k - least;
                CHECK.due("20: " + count + " in " + k, fits ? k : -3, h.seal.hide(0, hash, M, LABEL, SEED, KEPT));
                if (fits) {
                    CHECK.due("21: " + count + " in " + k, count, h.seal.show(0, hash, KEPT, LABEL, BACK));
                    CHECK.holds("21: " + count + " in " + k, h.has(BACK, Pads.random(count, count)));
                    h.put(KEPT, 6);
                } else {
                    CHECK.holds("20: -3 changes nothing", h.has(KEPT, House.bytes(6)));
                }
            }
            h.put(M, new byte[0]);
            for (int count : new int[] {0, Pads.length(hash) - 1, Pads.length(hash) + 1, 256}) {
                h.put(SEED, new byte[count]);
                int want = k < least ? -3 : -4;
                CHECK.due("20: a seed of " + count, want, h.seal.hide(0, hash, M, LABEL, SEED, OUT));
            }
            h.put(M, new byte[256]);
            CHECK.due("20: -3 before -4", -3, h.seal.hide(0, hash, M, LABEL, SEED, OUT));
            CHECK.holds("20: -4 changes nothing", h.has(OUT, House.bytes(7, 7)));
            h.put(M, new byte[k]);
            CHECK.due("21: a short key or a bad row", -5, h.seal.show(0, hash, M, LABEL, OUT));
        }
    }

    private static void showRefused(int hash) {
        int bits = 600;
        Keys key = new Keys(bits, 17, 21);
        int k = key.length();
        int h = Pads.length(hash);
        byte[] label = Pads.random(4, 9);
        byte[] seed = Pads.random(5, h);
        byte[] proof = Model.digest(hash, label);
        int behind = k - 2 * h - 1;
        byte[] one = new byte[behind];
        one[behind - 1] = 1;
        dueShown(key, hash, 0, "a 1 at the very end", Pads.masked(hash, 0, Model.join(proof, one), seed));
        dueShown(key, hash, -5, "a highest byte", Pads.masked(hash, 1, Model.join(proof, one), seed));
        dueShown(key, hash, -5, "no 1", Pads.masked(hash, 0, Model.join(proof, new byte[behind]), seed));
        one[behind - 1] = 2;
        dueShown(key, hash, -5, "a 2 at the end", Pads.masked(hash, 0, Model.join(proof, one), seed));
        one[0] = 1;
        dueShown(key, hash, behind - 1, "a 1 at once", Pads.masked(hash, 0, Model.join(proof, one), seed));
        one[0] = (byte) 129;
        dueShown(key, hash, -5, "a 129", Pads.masked(hash, 0, Model.join(proof, one), seed));
        one[0] = (byte) 255;
        one[1] = 1;
        dueShown(key, hash, -5, "a 255 before the 1", Pads.masked(hash, 0, Model.join(proof, one), seed));
        one[0] = 1;
        for (int place : new int[] {0, 1, h / 2, h - 1}) {
            byte[] bad = proof.clone();
            bad[place] ^= 4;
            dueShown(key, hash, -5, "digest byte " + place, Pads.masked(hash, 0, Model.join(bad, one), seed));
        }
        byte[] good = key.raised(Pads.masked(hash, 0, Model.join(proof, one), seed));
        House x = new House().put(LABEL, label).put(OUT, good).put(KEPT, 8, 8);
        key.whole(x);
        CHECK.due("21: as it is", behind - 1, x.seal.show(0, hash, OUT, LABEL, BACK));
        CHECK.due("21: with the other hash", -5, x.seal.show(0, 1 - hash, OUT, LABEL, KEPT));
        CHECK.due("21: with another label", -5, x.seal.show(0, hash, OUT, M, KEPT));
        x.put(OUT, Model.join(House.bytes(0), good));
        CHECK.due("21: a byte more", -5, x.seal.show(0, hash, OUT, LABEL, KEPT));
        x.put(OUT, House.sized(new BigInteger(1, good).add(key.n), k));
        CHECK.due("21: not below n", -5, x.seal.show(0, hash, OUT, LABEL, KEPT));
        x.put(OUT, House.sized(key.n, k));
        CHECK.due("21: n", -5, x.seal.show(0, hash, OUT, LABEL, KEPT));
        x.put(OUT, new byte[0]);
        CHECK.due("21: none", -5, x.seal.show(0, hash, OUT, LABEL, KEPT));
        for (int place : new int[] {0, 30, k - 1}) {
            x.put(OUT, good);
            x.seal.change(OUT, place, good[place] ^ 1);
            CHECK.due("21: byte " + place + " changed", -5, x.seal.show(0, hash, OUT, LABEL, KEPT));
        }
        CHECK.holds("21: nothing changed", x.has(KEPT, House.bytes(8, 8)));
        shortRow(hash, key, label, seed);
    }

    private static void dueShown(Keys key, int hash, int want, String what, byte[] block) {
        House x = new House().put(LABEL, Pads.random(4, 9)).put(OUT, key.raised(block)).put(KEPT, 8, 8);
        key.whole(x);
        CHECK.due("21: " + what, want, x.seal.show(0, hash, OUT, LABEL, KEPT));
        CHECK.due("21: the slot, " + what, want < 0 ? 2 : want, x.seal.size(KEPT));
    }

    /** A hidden row that begins with a 0, without that 0: the same number, but not K bytes. */
    private static void shortRow(int hash, Keys key, byte[] label, byte[] seed) {
        byte[] found;
        byte[] bent = seed.clone();
        do {
            bent[0]++;
            bent[1] += bent[0] == 0 ? 1 : 0;
            found = key.raised(Pads.hidden(hash, key.length(), House.bytes(1, 2, 3), label, bent));
        } while (found[0] != 0);
        House x = new House().put(LABEL, label).put(OUT, found);
        key.whole(x);
        CHECK.due("21: with its 0 ahead", 3, x.seal.show(0, hash, OUT, LABEL, BACK));
        x.put(OUT, Arrays.copyOfRange(found, 1, found.length));
        CHECK.due("21: without its 0 ahead", -5, x.seal.show(0, hash, OUT, LABEL, BACK));
    }

    private static void hideWrong() {
        House h = new House().put(SEED, new byte[32]).put(OUT, 4);
        SealHouse x = h.seal;
        CHECK.dueIndex("20: no key", () -> x.hide(0, 0, M, LABEL, SEED, OUT));
        new Keys(600, 17, 21).whole(h);
        CHECK.dueIndex("20: key 1", () -> x.hide(1, 0, M, LABEL, SEED, OUT));
        CHECK.dueIndex("20: key -1", () -> x.hide(-1, 2, M, LABEL, SEED, OUT));
        CHECK.dueIndex("20: message", () -> x.hide(0, 0, 24, LABEL, SEED, OUT));
        CHECK.dueIndex("20: label", () -> x.hide(0, 0, M, -1, SEED, OUT));
        CHECK.dueIndex("20: seed", () -> x.hide(0, 0, M, LABEL, 24, OUT));
        CHECK.dueIndex("20: to", () -> x.hide(0, 0, M, LABEL, SEED, 24));
        CHECK.dueIndex("20: the slot before the hash", () -> x.hide(0, 2, M, LABEL, SEED, -1));
        CHECK.dueArgument("20: hash 2", () -> x.hide(0, 2, M, LABEL, SEED, OUT));
        CHECK.dueArgument("20: hash -1, before the seed", () -> x.hide(0, -1, M, LABEL, M, OUT));
        CHECK.holds("20: nothing changed", h.has(OUT, House.bytes(4)));
    }

    private static void showWrong() {
        House h = new House().put(OUT, 4);
        SealHouse x = h.seal;
        Keys key = new Keys(600, 17, 21);
        CHECK.dueIndex("21: no key", () -> x.show(0, 0, M, LABEL, OUT));
        key.open(h);
        CHECK.due("21: open, before -5", -2, x.show(0, 0, M, LABEL, OUT));
        CHECK.due("21: open, SHA-224", -2, x.show(0, 1, M, LABEL, OUT));
        CHECK.dueIndex("21: key 1", () -> x.show(1, 0, M, LABEL, OUT));
        CHECK.dueIndex("21: from", () -> x.show(0, 0, 24, LABEL, OUT));
        CHECK.dueIndex("21: label", () -> x.show(0, 0, M, 24, OUT));
        CHECK.dueIndex("21: to", () -> x.show(0, 0, M, LABEL, -1));
        CHECK.dueIndex("21: the key before the hash", () -> x.show(7, 2, M, LABEL, OUT));
        CHECK.dueArgument("21: hash 2, before open", () -> x.show(0, 2, M, LABEL, OUT));
        CHECK.dueArgument("21: hash -1", () -> x.show(0, -1, M, LABEL, OUT));
        CHECK.holds("21: nothing changed", h.has(OUT, House.bytes(4)));
    }

    private static void hideOntoItself() {
        Keys key = new Keys(1024, 65537, 20);
        byte[] row = Pads.random(20, 32);
        House h = new House().put(M, row);
        key.whole(h);
        CHECK.due("20: all slots one", 128, h.seal.hide(0, 0, M, M, M, M));
        CHECK.holds("20: all slots one", h.has(M, key.raised(Pads.hidden(0, 128, row, row, row))));
        h.put(LABEL, row);
        CHECK.due("21: onto its label", 32, h.seal.show(0, 0, M, LABEL, LABEL));
        CHECK.holds("21: onto its label", h.has(LABEL, row));
    }

    private static void fillAndEmpty(int bits) throws GeneralSecurityException {
        Keys key = new Keys(bits, 65537, bits);
        Jdk jdk = new Jdk(key);
        int k = key.length();
        for (int count : new int[] {0, 1, 20, k - 12, k - 11}) {
            byte[] message = Pads.random(count, count);
            byte[] filling = Pads.filling(bits, k - 3 - count);
            House h = new House().put(M, message).put(SEED, filling);
            key.whole(h);
            key.open(h);
            String name = bits + " bits, " + count + " bytes";
            CHECK.due("22: K, " + name, k, h.seal.fill(1, M, SEED, OUT));
            byte[] filled = key.raised(Model.join(House.bytes(0, 2), filling, House.bytes(0), message));
            CHECK.holds("22: filled, " + name, h.has(OUT, filled));
            CHECK.holds("22: emptied by another, " + name, Arrays.equals(message, jdk.empty(filled)));
            CHECK.due("23: length, " + name, count, h.seal.empty(0, OUT, OUT));
            CHECK.holds("23: emptied, " + name, h.has(OUT, message));
            h.put(OUT, jdk.fill(message));
            CHECK.due("23: filled by another, " + name, count, h.seal.empty(0, OUT, BACK));
            CHECK.holds("23: filled by another, " + name, h.has(BACK, message));
        }
    }

    private static void fillEdges() {
        for (int k = 10; k <= 12; k++) {
            Keys key = new Keys(8 * k, 3, k);
            House h = new House().put(KEPT, 6, 6);
            key.whole(h);
            for (int count = 0; count < 3; count++) {
                h.put(M, Pads.random(count, count)).put(SEED, Pads.filling(k, k - 3 - count));
                boolean fits = count <= k - 11;
                CHECK.due("22: " + count + " in " + k, fits ? k : -3, h.seal.fill(0, M, SEED, OUT));
                CHECK.due("23: " + count + " in " + k, fits ? count : -5, h.seal.empty(0, OUT, fits ? BACK : KEPT));
                h.put(OUT, new byte[0]);
            }
            h.put(M, new byte[0]).put(SEED, new byte[0]);
            CHECK.due("22: no filling in " + k, k < 11 ? -3 : -4, h.seal.fill(0, M, SEED, KEPT));
            CHECK.holds("22: nothing changed", h.has(KEPT, House.bytes(6, 6)));
        }
        Keys key = new Keys(160, 3, 22);
        House h = new House().put(M, 1, 2, 3).put(KEPT, 6);
        key.whole(h);
        for (int count : new int[] {0, 13, 15, 256}) {
            h.put(SEED, Pads.filling(3, count));
            CHECK.due("22: a filling of " + count, -4, h.seal.fill(0, M, SEED, KEPT));
        }
        for (int place : new int[] {0, 6, 13}) {
            byte[] filling = Pads.filling(3, 14);
            filling[place] = 0;
            h.put(SEED, filling);
            CHECK.due("22: a 0 in the filling", -4, h.seal.fill(0, M, SEED, KEPT));
        }
        h.put(M, new byte[256]);
        CHECK.due("22: -3 before -4", -3, h.seal.fill(0, M, SEED, KEPT));
        CHECK.holds("22: nothing changed", h.has(KEPT, House.bytes(6)));
        h.put(M, 1, 2, 3).put(SEED, Pads.filling(3, 14));
        CHECK.due("22: the right filling", 20, h.seal.fill(0, M, SEED, KEPT));
        Keys longer = new Keys(224, 3, 5);
        byte[] row = Pads.filling(9, 12);
        h = new House().put(M, row);
        longer.whole(h);
        h.put(SEED, Pads.filling(9, 13));
        CHECK.due("22: onto the message", 28, h.seal.fill(0, M, SEED, M));
        CHECK.due("23: from the message", 12, h.seal.empty(0, M, M));
        CHECK.holds("23: from the message", h.has(M, row));
    }

    private static void emptyRefused() {
        Keys key = new Keys(160, 17, 23);
        byte[] eight = Pads.filling(8, 8);
        byte[] rest = Model.join(House.bytes(0), Pads.filling(1, 9));
        dueEmptied(key, 9, "eight bytes of filling", Model.join(House.bytes(0, 2), eight, rest));
        dueEmptied(key, -5, "seven bytes", Model.join(House.bytes(0, 2), Arrays.copyOf(eight, 7), House.bytes(0), rest));
        dueEmptied(key, -5, "no filling", Model.join(House.bytes(0, 2), rest, new byte[8]));
        dueEmptied(key, -5, "a 1 for the 2", Model.join(House.bytes(0, 1), eight, rest));
        dueEmptied(key, -5, "a 0 for the 2", Model.join(House.bytes(0, 0), eight, rest));
        dueEmptied(key, -5, "a 1 ahead", Model.join(House.bytes(1, 2), eight, rest));
        dueEmptied(key, -5, "no 0 behind", Model.join(House.bytes(0, 2), Pads.filling(8, 18)));
        dueEmptied(key, 0, "the 0 at the end", Model.join(House.bytes(0, 2), Pads.filling(8, 17), House.bytes(0)));
        dueEmptied(key, 8, "a message that begins with 0",
                Model.join(House.bytes(0, 2), Pads.filling(8, 9), new byte[2], Pads.filling(2, 7)));
        byte[] good = key.raised(Model.join(House.bytes(0, 2), eight, rest));
        House h = new House().put(KEPT, 8).put(OUT, Model.join(House.bytes(0), good));
        key.whole(h);
        CHECK.due("23: a byte more", -5, h.seal.empty(0, OUT, KEPT));
        h.put(OUT, House.sized(key.n, 20));
        CHECK.due("23: n", -5, h.seal.empty(0, OUT, KEPT));
        h.put(OUT, House.fewest(new BigInteger(1, good).add(key.n)));
        CHECK.due("23: not below n", -5, h.seal.empty(0, OUT, KEPT));
        CHECK.due("23: none", -5, h.seal.empty(0, M, KEPT));
        CHECK.holds("23: nothing changed", h.has(KEPT, House.bytes(8)));
        byte[] filling = eight.clone();
        byte[] begins;
        do {
            filling[0] = (byte) ((filling[0] & 255) % 255 + 1);
            filling[1] = filling[0] == 1 ? (byte) ((filling[1] & 255) % 255 + 1) : filling[1];
            begins = key.raised(Model.join(House.bytes(0, 2), filling, rest));
        } while (begins[0] != 0);
        h.put(OUT, begins);
        CHECK.due("23: with its 0 ahead", 9, h.seal.empty(0, OUT, BACK));
        h.put(OUT, Arrays.copyOfRange(begins, 1, 20));
        CHECK.due("23: without its 0 ahead", -5, h.seal.empty(0, OUT, BACK));
    }

    private static void dueEmptied(Keys key, int want, String what, byte[] block) {
        House h = new House().put(OUT, key.raised(block)).put(KEPT, 8, 8);
        key.whole(h);
        CHECK.due("23: " + what, want, h.seal.empty(0, OUT, KEPT));
        byte[] kept = want < 0 ? House.bytes(8, 8) : Arrays.copyOfRange(block, block.length - want, block.length);
        CHECK.holds("23: the slot, " + what, h.has(KEPT, kept));
    }

    private static void fillWrong() {
        House h = new House().put(OUT, 4);
        SealHouse x = h.seal;
        CHECK.dueIndex("22: no key", () -> x.fill(0, M, SEED, OUT));
        CHECK.dueIndex("23: no key", () -> x.empty(0, M, OUT));
        new Keys(160, 17, 23).open(h);
        CHECK.dueIndex("22: key 1", () -> x.fill(1, M, SEED, OUT));
        CHECK.dueIndex("22: key -1", () -> x.fill(-1, M, SEED, OUT));
        CHECK.dueIndex("22: message", () -> x.fill(0, -1, SEED, OUT));
        CHECK.dueIndex("22: filling", () -> x.fill(0, M, 24, OUT));
        CHECK.dueIndex("22: to", () -> x.fill(0, M, SEED, 24));
        CHECK.due("23: open, before -5", -2, x.empty(0, M, OUT));
        CHECK.dueIndex("23: key 1", () -> x.empty(1, M, OUT));
        CHECK.dueIndex("23: from, of the open", () -> x.empty(0, 24, OUT));
        CHECK.dueIndex("23: to, of the open", () -> x.empty(0, M, -1));
        CHECK.holds("23: nothing changed", h.has(OUT, House.bytes(4)));
    }
}
