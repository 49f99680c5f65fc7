import java.math.BigInteger;

/** Promises 1 to 8: a new object, feed, load, size, octet, cut, join, change. */
final class RowsTest {
    private static final Check CHECK = new Check();

    public static void main(String[] args) {
        newObject();
        feed();
        load();
        size();
        octet();
        cut();
        join();
        change();
        CHECK.end();
    }

    private static void newObject() {
        SealHouse x = new SealHouse();
        for (int slot = 0; slot < 24; slot++) {
            CHECK.due("1: slot " + slot + " is empty", 0, x.size(slot));
        }
        CHECK.due("1: no keys", 0, x.keys());
        CHECK.dueArgument("1: an empty tape has no byte", () -> run(() -> x.load(0, 1)));
        CHECK.due("1: an empty tape", 20, x.feed(0, 0, 0, 0, 0));
        CHECK.due("1: NONE", -1, SealHouse.NONE);
        SealHouse y = new SealHouse();
        x.load(0, 20);
        CHECK.due("1: objects have slots of their own", 0, y.size(0));
        CHECK.due("1: objects have tapes of their own", 20, y.feed(1, 1, 1, 1, 1));
    }

    private static void feed() {
        SealHouse x = new SealHouse();
        CHECK.due("2: first", 20, x.feed(0x01020304, 0x80818283, -1, 0x7fffffff, 0x80000000));
        for (int k = 2; k <= 13; k++) {
            CHECK.due("2: how many", 20L * k, x.feed(k, 2 * k, 3 * k, 4 * k, 5 * k));
        }
        CHECK.due("2: 280 would be too many", -1, x.feed(9, 9, 9, 9, 9));
        CHECK.due("2: and again", -1, x.feed(9, 9, 9, 9, 9));
        x.load(0, 256);
        int[] head = {1, 2, 3, 4, 0x80, 0x81, 0x82, 0x83, 255, 255, 255, 255, 127, 255, 255, 255, 128, 0, 0, 0,
            0, 0, 0, 2, 0, 0, 0, 4, 0, 0, 0, 6, 0, 0, 0, 8, 0, 0, 0, 10};
        for (int k = 0; k < head.length; k++) {
            CHECK.due("2: byte " + k, head[k], x.octet(0, k));
        }
        CHECK.due("2: the last row's numbers", 13, x.octet(0, 243));
        CHECK.due("2: the last row's numbers", 26, x.octet(0, 247));
        CHECK.due("2: the last row's numbers", 39, x.octet(0, 251));
        CHECK.due("2: the last row's numbers", 52, x.octet(0, 255));
        CHECK.due("2: the tape is empty again", 20, x.feed(1, 2, 3, 4, 5));
    }

    private static void load() {
        House h = new House();
        SealHouse x = h.seal;
        x.feed(0x0a0b0c0d, 0, 0, 0, 0x0e);
        CHECK.dueIndex("3: slot -1", () -> run(() -> x.load(-1, 3)));
        CHECK.dueIndex("3: slot 24", () -> run(() -> x.load(24, 3)));
        CHECK.dueIndex("3: slot before n", () -> run(() -> x.load(24, -1)));
        CHECK.dueArgument("3: n below 0", () -> run(() -> x.load(0, -1)));
        CHECK.dueArgument("3: n above the tape", () -> run(() -> x.load(0, 21)));
        CHECK.dueArgument("3: n far above", () -> run(() -> x.load(0, Integer.MAX_VALUE)));
        CHECK.dueArgument("3: n far below", () -> run(() -> x.load(0, Integer.MIN_VALUE)));
        CHECK.due("3: a refused load leaves the slot", 0, x.size(0));
        x.load(23, 20);
        CHECK.due("3: a refused load leaves the tape", 20, x.size(23));
        CHECK.due("3: first byte", 10, x.octet(23, 0));
        CHECK.due("3: last byte", 14, x.octet(23, 19));
        CHECK.dueArgument("3: the tape is empty then", () -> run(() -> x.load(0, 1)));
        x.feed(0x01020304, 0, 0, 0, 0);
        x.load(0, 0);
        CHECK.due("3: none", 0, x.size(0));
        CHECK.dueArgument("3: the tape is empty after none, too", () -> run(() -> x.load(0, 1)));
        x.feed(0x01020304, 0, 0, 0, 0);
        x.load(23, 2);
        CHECK.due("3: a shorter row in the place of a longer", 2, x.size(23));
        CHECK.due("3: the first bytes, not the last", 1, x.octet(23, 0));
        CHECK.due("3: nothing behind", -1, x.octet(23, 2));
        h.feedAll(new byte[260]);
        CHECK.dueArgument("3: 257 of 260", () -> run(() -> x.load(0, 257)));
        CHECK.dueArgument("3: 260 of 260", () -> run(() -> x.load(0, 260)));
        x.load(0, 256);
        CHECK.due("3: 256 of 260", 256, x.size(0));
    }

    private static void size() {
        House h = new House().put(0, 0, 0, 7).put(23, new byte[256]);
        CHECK.due("4: zeros ahead count", 3, h.seal.size(0));
        CHECK.due("4: the longest", 256, h.seal.size(23));
        CHECK.due("4: none", 0, h.seal.size(1));
        CHECK.dueIndex("4: slot -1", () -> h.seal.size(-1));
        CHECK.dueIndex("4: slot 24", () -> h.seal.size(24));
        CHECK.dueIndex("4: slot far away", () -> h.seal.size(Integer.MIN_VALUE));
    }

    private static void octet() {
        House h = new House().put(2, 0, 127, 128, 255);
        CHECK.due("5: 0", 0, h.seal.octet(2, 0));
        CHECK.due("5: 127", 127, h.seal.octet(2, 1));
        CHECK.due("5: 128", 128, h.seal.octet(2, 2));
        CHECK.due("5: 255", 255, h.seal.octet(2, 3));
        CHECK.due("5: behind the end", -1, h.seal.octet(2, 4));
        CHECK.due("5: before the start", -1, h.seal.octet(2, -1));
        CHECK.due("5: far behind", -1, h.seal.octet(2, Integer.MAX_VALUE));
        CHECK.due("5: far before", -1, h.seal.octet(2, Integer.MIN_VALUE));
        CHECK.due("5: of an empty one", -1, h.seal.octet(3, 0));
        CHECK.dueIndex("5: slot -1", () -> h.seal.octet(-1, 0));
        CHECK.dueIndex("5: slot 24", () -> h.seal.octet(24, 0));
    }

    private static void cut() {
        House h = new House().put(0, 10, 11, 12, 13, 14);
        SealHouse x = h.seal;
        CHECK.due("6: a part", 3, x.cut(0, 1, 3, 1));
        CHECK.holds("6: its bytes", h.has(1, House.bytes(11, 12, 13)));
        CHECK.holds("6: the row stays", h.has(0, House.bytes(10, 11, 12, 13, 14)));
        CHECK.due("6: all", 5, x.cut(0, 0, 5, 2));
        CHECK.holds("6: all of it", h.has(2, House.bytes(10, 11, 12, 13, 14)));
        CHECK.due("6: none at the end", 0, x.cut(0, 5, 0, 2));
        CHECK.due("6: none", 0, x.size(2));
        CHECK.dueArgument("6: one too many", () -> x.cut(0, 3, 3, 1));
        CHECK.dueArgument("6: from behind the end", () -> x.cut(0, 6, 0, 1));
        CHECK.dueArgument("6: i below 0", () -> x.cut(0, -1, 2, 1));
        CHECK.dueArgument("6: n below 0", () -> x.cut(0, 2, -1, 1));
        CHECK.dueArgument("6: i far away", () -> x.cut(0, Integer.MAX_VALUE, 1, 1));
        CHECK.dueArgument("6: n far away", () -> x.cut(0, 1, Integer.MAX_VALUE, 1));
        CHECK.dueArgument("6: both far away", () -> x.cut(0, Integer.MAX_VALUE, Integer.MAX_VALUE, 1));
        CHECK.dueArgument("6: i lowest", () -> x.cut(0, Integer.MIN_VALUE, 1, 1));
        CHECK.dueIndex("6: from -1", () -> x.cut(-1, 0, 0, 1));
        CHECK.dueIndex("6: to 24", () -> x.cut(0, 0, 0, 24));
        CHECK.dueIndex("6: the slot first", () -> x.cut(0, -1, -1, -1));
        CHECK.holds("6: a refused cut leaves the slot", h.has(1, House.bytes(11, 12, 13)));
        CHECK.due("6: onto itself", 2, x.cut(0, 2, 2, 0));
        CHECK.holds("6: onto itself", h.has(0, House.bytes(12, 13)));
    }

    private static void join() {
        House h = new House().put(0, 1, 2, 3).put(1, 0, 4).put(2, new byte[254]).put(3, 9, 9);
        SealHouse x = h.seal;
        CHECK.due("7: two rows", 5, x.join(0, 1, 4));
        CHECK.holds("7: in their order", h.has(4, House.bytes(1, 2, 3, 0, 4)));
        CHECK.due("7: with none", 3, x.join(5, 0, 6));
        CHECK.holds("7: with none", h.has(6, House.bytes(1, 2, 3)));
        CHECK.due("7: none with none", 0, x.join(5, 5, 6));
        CHECK.due("7: none with none", 0, x.size(6));
        CHECK.due("7: 257", -4, x.join(2, 0, 4));
        CHECK.holds("7: nothing changed", h.has(4, House.bytes(1, 2, 3, 0, 4)));
        CHECK.due("7: 256", 256, x.join(2, 3, 7));
        CHECK.due("7: 256", 256, x.size(7));
        CHECK.due("7: its last", 9, x.octet(7, 255));
        CHECK.due("7: 512", -4, x.join(7, 7, 7));
        CHECK.due("7: onto the first", 5, x.join(0, 1, 0));
        CHECK.holds("7: onto the first", h.has(0, House.bytes(1, 2, 3, 0, 4)));
        CHECK.due("7: onto the second", 7, x.join(0, 1, 1));
        CHECK.holds("7: onto the second", h.has(1, House.bytes(1, 2, 3, 0, 4, 0, 4)));
        CHECK.due("7: all one", 4, x.join(3, 3, 3));
        CHECK.holds("7: all one", h.has(3, House.bytes(9, 9, 9, 9)));
        CHECK.dueIndex("7: a", () -> x.join(24, 0, 0));
        CHECK.dueIndex("7: b", () -> x.join(0, -1, 0));
        CHECK.dueIndex("7: to", () -> x.join(0, 0, 24));
        CHECK.dueIndex("7: to, where it would be too long", () -> x.join(7, 7, 24));
    }

    private static void change() {
        House h = new House().put(0, 1, 200, 3);
        SealHouse x = h.seal;
        CHECK.due("8: what it had", 200, x.change(0, 1, 77));
        CHECK.due("8: what it has", 77, x.octet(0, 1));
        CHECK.due("8: what it had", 77, x.change(0, 1, -1));
        CHECK.due("8: eight bits of -1", 255, x.change(0, 1, 0x12345680));
        CHECK.due("8: eight bits of more", 128, x.change(0, 1, 256));
        CHECK.due("8: eight bits of 256", 0, x.octet(0, 1));
        CHECK.due("8: the first", 1, x.change(0, 0, 9));
        CHECK.due("8: the last", 3, x.change(0, 2, 8));
        CHECK.holds("8: the row", h.has(0, House.bytes(9, 0, 8)));
        CHECK.dueArgument("8: behind the end", () -> x.change(0, 3, 1));
        CHECK.dueArgument("8: before the start", () -> x.change(0, -1, 1));
        CHECK.dueArgument("8: far behind", () -> x.change(0, Integer.MAX_VALUE, 1));
        CHECK.dueArgument("8: of an empty one", () -> x.change(1, 0, 1));
        CHECK.dueIndex("8: slot -1", () -> x.change(-1, 0, 1));
        CHECK.dueIndex("8: slot 24, first", () -> x.change(24, -1, 1));
        CHECK.holds("8: nothing else changed", h.has(0, new BigInteger("90008", 16)));
    }

    private static long run(Runnable call) {
        call.run();
        return 0;
    }
}
