import java.math.BigInteger;
import java.util.Arrays;

/** Each sentence of terms 1 and of promises 1 to 8 that names an edge, at the edge and on both its sides. */
final class RowEdgesTest {
    private static final Check CHECK = new Check();
    private static final int LEAST = Integer.MIN_VALUE;
    private static final int MOST = Integer.MAX_VALUE;
    private static final BigInteger ONE = BigInteger.ONE;

    public static void main(String[] args) {
        noneAtFirst();
        longestRows();
        allSlotsFull();
        numberOfNone();
        fewestBytes();
        zerosAhead();
        newTape();
        highestFirst();
        fullTape();
        firstBytes();
        emptiedTape();
        loadSlots();
        loadLengths();
        loadAbove256();
        sizes();
        octets();
        cutAll();
        cutBeyond();
        cutBelow();
        joinLengths();
        changeValues();
        changeBeyond();
        CHECK.end();
    }

    private static byte[] counted(int count) {
        byte[] row = new byte[count];
        for (int k = 0; k < count; k++) {
            row[k] = (byte) (k + 1);
        }
        return row;
    }

    private static long load(SealHouse x, int slot, int n) {
        x.load(slot, n);
        return 0;
    }

    private static void noneAtFirst() {
        CHECK.sentence("each hold a ROW of 0 to 256 BYTES, none at first.");
        SealHouse x = new SealHouse();
        for (int slot = 0; slot < 24; slot++) {
            CHECK.due("size of " + slot, 0, x.size(slot));
            CHECK.due("first of " + slot, -1, x.octet(slot, 0));
            CHECK.due("bits of " + slot, 0, x.bits(slot));
        }
    }

    private static void longestRows() {
        CHECK.sentence("each hold a ROW of 0 to 256 BYTES");
        for (int slot : new int[] {0, 23}) {
            for (int count : new int[] {0, 1, 255, 256}) {
                House h = new House().put(slot, counted(count));
                CHECK.due("size", count, h.seal.size(slot));
                CHECK.holds("its bytes", Arrays.equals(counted(count), h.row(slot)));
            }
        }
        House h = new House().put(0, House.times(255, 256)).put(1, 1).put(2, 0, 5);
        CHECK.due("a byte behind 256", -4, h.seal.join(0, 1, 2));
        CHECK.due("a byte ahead of 256", -4, h.seal.join(1, 0, 2));
        CHECK.due("a sum of 257", -4, h.seal.calc(0, 0, 1, 1, 2));
        CHECK.dueArgument("a mask of 257", () -> h.seal.mask(0, 0, 257, 2));
        h.feedAll(new byte[260]);
        CHECK.dueArgument("257 from the tape", () -> load(h.seal, 2, 257));
        h.seal.load(3, 256);
        CHECK.holds("nothing changed", h.has(2, House.bytes(0, 5)));
    }

    private static void allSlotsFull() {
        CHECK.sentence("SLOTS 0 to 23 each hold a ROW of 0 to 256 BYTES");
        SealHouse x = new SealHouse();
        for (int slot = 0; slot < 24; slot++) {
            for (int k = 0; k < 13; k++) {
                int word = (slot + 1) * 0x01010101;
                x.feed(word, word, word, word, word);
            }
            x.load(slot, 256);
        }
        for (int slot = 0; slot < 24; slot++) {
            CHECK.due("size of " + slot, 256, x.size(slot));
            CHECK.due("first of " + slot, slot + 1, x.octet(slot, 0));
            CHECK.due("last of " + slot, slot + 1, x.octet(slot, 255));
            CHECK.due("bits of " + slot, 2040 + 32 - Integer.numberOfLeadingZeros(slot + 1), x.bits(slot));
        }
    }

    private static void numberOfNone() {
        CHECK.sentence("The NUMBER of a ROW: its BYTES, the highest first (of none 0).");
        House h = new House().put(1, 0).put(2, new byte[256]).put(3, 1).put(4, 1, 0).put(5, 0, 1).put(6, 255);
        CHECK.due("none is 0", 0, h.seal.compare(0, 1));
        CHECK.due("none is many 0s", 0, h.seal.compare(0, 2));
        CHECK.due("none is below 1", -1, h.seal.compare(0, 3));
        CHECK.due("1, 0 is above 255", 1, h.seal.compare(4, 6));
        CHECK.due("0, 1 is 1", 0, h.seal.compare(5, 3));
        CHECK.due("none and 1", 1, h.seal.calc(0, 0, 3, 0, 7));
        CHECK.holds("none and 1", h.has(7, ONE));
        CHECK.due("none and none", 0, h.seal.calc(0, 0, 0, 0, 7));
        CHECK.due("by none", -2, h.seal.calc(3, 3, 0, 0, 7));
        CHECK.due("by 0s", -2, h.seal.calc(3, 3, 2, 0, 7));
    }

    private static void fewestBytes() {
        CHECK.sentence("A NUMBER is put as the fewest BYTES (0 as none)");
        for (int count = 1; count < 256; count++) {
            BigInteger first = ONE.shiftLeft(8 * count);
            House h = new House().put(0, first.subtract(ONE)).put(1, 1);
            CHECK.due("the first of more than " + count, count + 1, h.seal.calc(0, 0, 1, 0, 2));
            CHECK.holds("the first of more than " + count, h.has(2, first));
            CHECK.due("the last of " + count, count, h.seal.calc(1, 2, 1, 0, 3));
            CHECK.holds("the last of " + count, h.has(3, first.subtract(ONE)));
        }
        House h = new House().put(0, 0, 0, 0, 7).put(1, 0, 7).put(2, 5, 5).put(3, 0, 0, 251).put(4, 0, 0, 250);
        CHECK.due("0 as none", 0, h.seal.calc(1, 0, 1, 0, 2));
        CHECK.due("0 as none", 0, h.seal.size(2));
        CHECK.due("1 without 0s", 1, h.seal.calc(3, 0, 1, 0, 2));
        CHECK.holds("1 without 0s", h.has(2, House.bytes(1)));
        CHECK.due("the next of 250 without 0s", 1, h.seal.next(4, 2));
        CHECK.holds("the next of 250", h.has(2, House.bytes(251)));
        CHECK.due("the next of 251 without 0s", 2, h.seal.next(3, 2));
        CHECK.holds("the next of 251", h.has(2, House.bytes(1, 1)));
        h.put(5, Model.join(new byte[9], House.fewest(ONE.shiftLeft(64).subtract(ONE)))).put(6, 0, 0, 3);
        h.seal.open(5, 6);
        CHECK.due("e without 0s", 1, h.seal.part(0, 1, 2));
        CHECK.holds("e without 0s", h.has(2, House.bytes(3)));
        CHECK.due("n without 0s", 8, h.seal.part(0, 0, 2));
        CHECK.holds("n without 0s", h.has(2, House.times(255, 8)));
    }

    private static void zerosAhead() {
        CHECK.sentence("unless a length is told: then with 0s ahead.");
        Keys key = new Keys(72, 17, 1);
        House h = new House().put(1, 1).put(2, 0, 2);
        key.whole(h);
        for (int how = 0; how < 2; how++) {
            CHECK.due("0 turned", 9, h.seal.turn(0, how, 0, 3));
            CHECK.holds("0 turned is nine 0s", h.has(3, new byte[9]));
            CHECK.due("1 turned", 9, h.seal.turn(0, how, 1, 3));
            CHECK.holds("1 turned has eight 0s ahead", h.has(3, House.bytes(0, 0, 0, 0, 0, 0, 0, 0, 1)));
        }
        CHECK.due("2 raised", 9, h.seal.turn(0, 0, 2, 3));
        CHECK.holds("2 raised has six 0s ahead", h.has(3, House.bytes(0, 0, 0, 0, 0, 0, 2, 0, 0)));
    }

    private static void newTape() {
        CHECK.sentence("All SLOTS are empty, no KEYS; an empty tape.");
        SealHouse x = new SealHouse();
        CHECK.due("no keys", 0, x.keys());
        CHECK.dueIndex("no key 0", () -> x.part(0, 0, 0));
        CHECK.dueArgument("a byte of an empty tape", () -> load(x, 0, 1));
        CHECK.due("none of an empty tape", 0, load(x, 0, 0));
        CHECK.due("the first on the tape", 20, x.feed(1, 2, 3, 4, 5));
        CHECK.dueArgument("one more than twenty", () -> load(x, 0, 21));
    }

    private static void highestFirst() {
        CHECK.sentence("Twenty bytes come on the tape, of each number the highest first");
        SealHouse x = new SealHouse();
        x.feed(0, -1, LEAST, MOST, 0x7f80ff01);
        x.load(0, 20);
        int[] want = {0, 0, 0, 0, 255, 255, 255, 255, 128, 0, 0, 0, 127, 255, 255, 255, 127, 128, 255, 1};
        for (int k = 0; k < 20; k++) {
            CHECK.due("byte " + k, want[k], x.octet(0, k));
        }
    }

    private static void fullTape() {
        CHECK.sentence("NONE, doing nothing, if there would be more than 260.");
        SealHouse x = new SealHouse();
        for (int k = 1; k <= 13; k++) {
            CHECK.due("feed " + k, 20L * k, x.feed(k, k, k, k, k));
        }
        CHECK.due("feed 14", -1, x.feed(99, 99, 99, 99, 99));
        CHECK.due("feed 15", -1, x.feed(0, 0, 0, 0, 0));
        x.load(0, 256);
        CHECK.due("the first number", 1, x.octet(0, 3));
        CHECK.due("the last number that a row can have", 13, x.octet(0, 255));
        CHECK.due("a number before it", 12, x.octet(0, 239));
        for (int k = 1; k <= 12; k++) {
            CHECK.due("feed again", 20L * k, x.feed(k, k, k, k, k));
        }
        CHECK.due("the last feed that has room", 260, x.feed(0, 0, 0, 0, 0));
        CHECK.due("the first that has none", -1, x.feed(0, 0, 0, 0, 0));
    }

    private static void firstBytes() {
        CHECK.sentence("The first n bytes of the tape are the ROW of a SLOT");
        byte[] tape = counted(60);
        for (int n : new int[] {0, 1, 19, 20, 21, 59, 60}) {
            House h = new House().put(4, counted(30));
            h.feedAll(tape);
            h.seal.load(4, n);
            CHECK.holds(n + " of 60", Arrays.equals(Arrays.copyOf(tape, n), h.row(4)));
        }
    }

    private static void emptiedTape() {
        CHECK.sentence("the tape is empty then.");
        for (int n : new int[] {0, 1, 20, 40}) {
            SealHouse x = new SealHouse();
            x.feed(1, 2, 3, 4, 5);
            x.feed(6, 7, 8, 9, 10);
            x.load(0, n);
            CHECK.dueArgument("a byte more, after " + n, () -> load(x, 1, 1));
            CHECK.due("feed after " + n, 20, x.feed(0x0b000000, 0, 0, 0, 0));
            x.load(1, 1);
            CHECK.due("the new first byte after " + n, 11, x.octet(1, 0));
            CHECK.due("the row of before", n, x.size(0));
        }
        SealHouse kept = new SealHouse();
        kept.feed(1, 2, 3, 4, 5);
        CHECK.dueIndex("no slot", () -> load(kept, 24, 0));
        CHECK.dueArgument("too many", () -> load(kept, 0, 21));
        CHECK.due("what throws leaves the tape", 40, kept.feed(1, 2, 3, 4, 5));
    }

    private static void loadSlots() {
        CHECK.sentence("IndexOutOfBoundsException: no such SLOT");
        House h = new House();
        h.feedAll(counted(20));
        for (int slot : new int[] {-1, 24, LEAST, MOST}) {
            CHECK.dueIndex("slot " + slot, () -> load(h.seal, slot, 1));
            CHECK.dueIndex("slot " + slot + ", and n is too high", () -> load(h.seal, slot, 21));
            CHECK.dueIndex("slot " + slot + ", and n is below 0", () -> load(h.seal, slot, -1));
        }
        for (int slot : new int[] {0, 23}) {
            h.put(slot, 9, 8);
            CHECK.due("slot " + slot, 2, h.seal.size(slot));
        }
    }

    private static void loadLengths() {
        CHECK.sentence("IllegalArgumentException: n is not 0 to the tape's bytes");
        for (int count : new int[] {0, 20, 40, 240}) {
            for (int n : new int[] {LEAST, -1, count + 1, MOST}) {
                House h = new House().put(0, 3);
                h.feedAll(new byte[count]);
                CHECK.dueArgument(n + " of " + count, () -> load(h.seal, 0, n));
                CHECK.due("the slot stays", 1, h.seal.size(0));
            }
            for (int n : new int[] {0, count - 1, count}) {
                House h = new House().put(0, 3);
                h.feedAll(new byte[count]);
                if (n >= 0) {
                    h.seal.load(0, n);
                    CHECK.due(n + " of " + count, n, h.seal.size(0));
                }
            }
        }
    }

    private static void loadAbove256() {
        CHECK.sentence("n is not 0 to the tape's bytes, or above 256.");
        for (int n = 254; n <= 262; n++) {
            House h = new House();
            h.feedAll(counted(260));
            int told = n;
            if (n > 256) {
                CHECK.dueArgument(n + " of 260", () -> load(h.seal, 0, told));
                CHECK.due("the tape stays full", -1, h.seal.feed(0, 0, 0, 0, 0));
            } else {
                h.seal.load(0, n);
                CHECK.holds(n + " of 260", Arrays.equals(counted(n), h.row(0)));
            }
        }
    }

    private static void sizes() {
        CHECK.sentence("How many BYTES a SLOT has.");
        for (int count : new int[] {0, 1, 2, 255, 256}) {
            House h = new House().put(0, new byte[count]);
            CHECK.due("so many 0s", count, h.seal.size(0));
        }
    }

    private static void octets() {
        CHECK.sentence("BYTE k of a SLOT, 0 to 255; NONE without one.");
        for (int count : new int[] {0, 1, 2, 255, 256}) {
            House h = new House().put(0, House.times(255, 256)).put(0, House.times(128, count));
            for (int k : new int[] {LEAST, -1, 0, count - 1, count, count + 1, 256, MOST}) {
                CHECK.due(k + " of " + count, k >= 0 && k < count ? 128 : -1, h.seal.octet(0, k));
            }
        }
        House h = new House().put(0, 0, 1, 127, 128, 254, 255);
        int[] want = {0, 1, 127, 128, 254, 255, -1};
        for (int k = 0; k < want.length; k++) {
            CHECK.due("byte " + k, want[k], h.seal.octet(0, k));
        }
    }

    private static void cutAll() {
        CHECK.sentence("The ROW of a SLOT from BYTE i on, n of them, comes to a SLOT: n.");
        for (int count : new int[] {0, 1, 5, 256}) {
            for (int i : new int[] {0, 1, count / 2, count - 1, count}) {
                for (int n : new int[] {0, 1, count - i - 1, count - i}) {
                    if (i < 0 || i > count || n < 0 || n > count - i) {
                        continue;
                    }
                    House h = new House().put(0, counted(count)).put(1, 9, 9);
                    CHECK.due(n + " from " + i + " of " + count, n, h.seal.cut(0, i, n, 1));
                    CHECK.holds(n + " from " + i + " of " + count,
                            h.has(1, Arrays.copyOfRange(counted(count), i, i + n)));
                }
            }
        }
    }

    private static void cutBeyond() {
        CHECK.sentence("IllegalArgumentException: it has not so many there");
        for (int count : new int[] {0, 1, 5, 256}) {
            House h = new House().put(0, counted(count)).put(1, 0, 9);
            for (int i : new int[] {0, 1, count / 2, count}) {
                int over = count - i + 1;
                if (over > 0) {
                    CHECK.dueArgument(over + " from " + i + " of " + count, () -> h.seal.cut(0, i, over, 1));
                }
                CHECK.dueArgument("far more, from " + i + " of " + count, () -> h.seal.cut(0, i, MOST, 1));
            }
            CHECK.dueArgument("one, from the end of " + count, () -> h.seal.cut(0, count, 1, 1));
            CHECK.dueArgument("none, from behind the end of " + count, () -> h.seal.cut(0, count + 1, 0, 1));
            CHECK.dueArgument("one, from far behind " + count, () -> h.seal.cut(0, MOST, 1, 1));
            CHECK.dueArgument("none, from far behind " + count, () -> h.seal.cut(0, MOST, 0, 1));
            CHECK.dueArgument("both far away", () -> h.seal.cut(0, MOST, MOST, 1));
            CHECK.holds("nothing changed", h.has(1, House.bytes(0, 9)));
        }
    }

    private static void cutBelow() {
        CHECK.sentence("it has not so many there, or i or n is below 0.");
        House h = new House().put(0, counted(5)).put(1, 0, 9);
        for (int below : new int[] {-1, -2, LEAST}) {
            for (int other : new int[] {0, 1, 5}) {
                CHECK.dueArgument("i " + below + ", n " + other, () -> h.seal.cut(0, below, other, 1));
                CHECK.dueArgument("i " + other + ", n " + below, () -> h.seal.cut(0, other, below, 1));
            }
            CHECK.dueArgument("both " + below, () -> h.seal.cut(0, below, below, 1));
            CHECK.dueArgument("n takes i back", () -> h.seal.cut(0, 6, below, 1));
        }
        CHECK.holds("nothing changed", h.has(1, House.bytes(0, 9)));
        CHECK.due("i and n 0", 0, h.seal.cut(0, 0, 0, 1));
        CHECK.due("none", 0, h.seal.size(1));
    }

    private static void joinLengths() {
        CHECK.sentence("Two ROWS one behind the other come to a SLOT: how many BYTES; -4: more than 256.");
        int[][] pairs = {{0, 0}, {0, 1}, {1, 0}, {0, 256}, {256, 0}, {128, 128}, {255, 1}, {1, 255}, {127, 128},
            {129, 128}, {128, 129}, {256, 1}, {1, 256}, {255, 2}, {256, 256}};
        for (int[] pair : pairs) {
            byte[] ahead = Pads.random(pair[0], pair[0]);
            byte[] behind = Pads.random(pair[1] + 300, pair[1]);
            int sum = pair[0] + pair[1];
            House h = new House().put(0, ahead).put(1, behind).put(2, 0, 5);
            CHECK.due(pair[0] + " and " + pair[1], sum > 256 ? -4 : sum, h.seal.join(0, 1, 2));
            CHECK.holds(pair[0] + " and " + pair[1],
                    h.has(2, sum > 256 ? House.bytes(0, 5) : Model.join(ahead, behind)));
        }
    }

    private static void changeValues() {
        CHECK.sentence("BYTE k of a SLOT gets another value (its lowest eight bits): what it had.");
        House h = new House().put(0, 5, 6, 7);
        int[] values = {0, 1, 127, 128, 255, 256, 257, 511, 512, -1, -128, -129, -256, -257, MOST, LEAST, 0x12345678};
        int had = 6;
        for (int value : values) {
            CHECK.due("before " + value, had, h.seal.change(0, 1, value));
            had = value & 255;
            CHECK.due("of " + value, had, h.seal.octet(0, 1));
        }
        CHECK.due("the first", 5, h.seal.change(0, 0, 255));
        CHECK.due("the last", 7, h.seal.change(0, 2, 0));
        CHECK.holds("the row", h.has(0, House.bytes(255, had, 0)));
    }

    private static void changeBeyond() {
        CHECK.sentence("IllegalArgumentException: there is no such BYTE.");
        for (int count : new int[] {0, 1, 3, 256}) {
            House h = new House().put(0, House.times(9, 256)).put(0, counted(count));
            for (int k : new int[] {LEAST, -1, count, count + 1, 256, MOST}) {
                CHECK.dueArgument("byte " + k + " of " + count, () -> h.seal.change(0, k, 77));
            }
            CHECK.holds("nothing changed", h.has(0, counted(count)));
            for (int k : new int[] {0, count - 1}) {
                if (k >= 0 && k < count) {
                    int was = h.seal.octet(0, k);
                    CHECK.due("byte " + k + " of " + count, was, h.seal.change(0, k, 77));
                    CHECK.due("byte " + k + " of " + count, 77, h.seal.octet(0, k));
                }
            }
        }
    }
}
