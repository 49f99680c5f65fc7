import java.math.BigInteger;
import java.util.Arrays;

/** The sentences that bind all calls: slots, keys and hashes at their edges, one slot told twice, what is refused. */
final class CallEdgesTest {
    private static final Check CHECK = new Check();
    private static final BigInteger ONE = BigInteger.ONE;
    private static final Keys SMALL = new Keys(64, 65537, 1);
    private static final Keys MIDDLE = new Keys(600, 17, 21);
    private static final Keys LARGE = new Keys(1024, 65537, 2);
    private static final int[] FAR = {Integer.MIN_VALUE, Integer.MAX_VALUE};

    /** What a house is given before a call is looked at. */
    private interface Setting {
        void make(Known known);
    }

    public static void main(String[] args) {
        thrownChangesNothing();
        lastCall();
        slots();
        slotsNotAskedFor();
        keys();
        hashes();
        rowsTwice();
        numbersTwice();
        keysTwice();
        paddingsTwice();
        refusedRows();
        refusedNumbers();
        refusedKeys();
        refusedFullRing();
        refusedPaddings();
        CHECK.end();
    }

    /** No sentence says so of its own, but nothing that a call is said to do is done where it throws. */
    private static void thrownChangesNothing() {
        Known known = new Known().whole(SMALL).feed(20);
        for (String call : Calls.ALL) {
            String kinds = Calls.kinds(call);
            for (int place = 0; place < kinds.length(); place++) {
                if (kinds.charAt(place) != 'n' || !call.matches("(octet|change).*")) {
                    int[] told = numbers(kinds, 0, place, -1);
                    CHECK.holds(call + " throws at " + place, !answers(known.seal, Calls.name(call), told));
                }
            }
        }
        CHECK.dueArgument("change", () -> known.seal.change(0, 2, 1));
        CHECK.dueArgument("load", () -> Calls.run(known.seal, "load", 0, 21));
        CHECK.dueArgument("mask", () -> known.seal.mask(0, 0, 257, 1));
        CHECK.dueArgument("cut", () -> known.seal.cut(0, 0, 3, 1));
        String changed = known.changed();
        CHECK.holds("what throws has changed " + changed, changed.isEmpty());
    }

    private static void lastCall() {
        CHECK.sentence("An object is used for at most 512 calls after it has been made");
        SealHouse x = new SealHouse();
        for (int k = 1; k <= 510; k += 2) {
            CHECK.due("call " + k, 20, x.feed(k << 16, 0, 0, 0, k));
            x.load(k % 24, 20);
        }
        CHECK.due("call 511", 509 % 256, x.octet(509 % 24, 19));
        CHECK.due("call 512", 1, x.octet(509 % 24, 0));
        House h = new House();
        for (int k = 0; k < 500; k++) {
            CHECK.due("keys", 0, h.seal.keys());
        }
        h.put(20, SMALL.p).put(21, SMALL.q).put(22, SMALL.e).put(0, 5);
        CHECK.due("call 509", 0, h.seal.key(20, 21, 22));
        CHECK.due("call 510", 8, h.seal.turn(0, 0, 0, 1));
        CHECK.due("call 511", 8, h.seal.turn(0, 1, 1, 2));
        CHECK.due("call 512", 5, h.seal.octet(2, 7));
    }

    /** A house with a whole key that is too short for most, an open one, and a long one. */
    private static House threeKeys() {
        House h = new House();
        SMALL.whole(h);
        SMALL.open(h);
        LARGE.whole(h);
        for (int slot = 0; slot < 24; slot++) {
            h.put(slot, 0, slot);
        }
        return h;
    }

    private static boolean isThrown(Class<?> want, SealHouse x, String name, int... numbers) {
        try {
            Calls.run(x, name, numbers);
            return false;
        } catch (RuntimeException thrown) {
            return thrown.getClass() == want;
        }
    }

    private static boolean answers(SealHouse x, String name, int... numbers) {
        try {
            Calls.run(x, name, numbers);
            return true;
        } catch (RuntimeException thrown) {
            return false;
        }
    }

    /** The numbers of a call: one value at a place, and all others 0, or the key. */
    private static int[] numbers(String kinds, int key, int place, int value) {
        int[] numbers = new int[kinds.length()];
        for (int k = 0; k < numbers.length; k++) {
            numbers[k] = kinds.charAt(k) == 'k' ? key : 0;
        }
        numbers[place] = value;
        return numbers;
    }

    private static void slots() {
        CHECK.sentence("SLOTS 0 to 23 each hold a ROW");
        for (String call : Calls.ALL) {
            String kinds = Calls.kinds(call);
            for (int place = 0; place < kinds.length(); place++) {
                if (kinds.charAt(place) == 's') {
                    slotsAt(Calls.name(call), kinds, place);
                }
            }
        }
    }

    private static void slotsAt(String name, String kinds, int place) {
        for (int key = 0; key < (kinds.charAt(0) == 'k' ? 3 : 1); key++) {
            House h = threeKeys();
            for (int slot : new int[] {-1, 24, FAR[0], FAR[1], 0, 1, 22, 23}) {
                int[] told = numbers(kinds, key, place, slot);
                String what = name + Arrays.toString(told);
                if (slot < 0 || slot > 23) {
                    CHECK.holds(what, isThrown(IndexOutOfBoundsException.class, h.seal, name, told));
                } else {
                    CHECK.holds(what, answers(h.seal, name, told));
                }
            }
        }
    }

    private static void slotsNotAskedFor() {
        CHECK.sentence("for each SLOT they are told, also one that is not asked for by what is done");
        House h = threeKeys();
        for (int what = 0; what < 8; what++) {
            for (int slot : new int[] {-1, 24, FAR[0], FAR[1]}) {
                int told = what;
                CHECK.dueIndex("calc " + what + ", c " + slot, () -> h.seal.calc(told, 0, 1, slot, 2));
            }
            CHECK.holds("calc " + what + ", c 23", answers(h.seal, "calc", what, 0, 1, 23, 2));
        }
        CHECK.dueIndex("part of an open key", () -> h.seal.part(1, 2, 24));
        CHECK.dueIndex("turn, lowered with an open key: from", () -> h.seal.turn(1, 1, 24, 0));
        CHECK.dueIndex("turn, lowered with an open key: to", () -> h.seal.turn(1, 1, 0, -1));
        CHECK.dueIndex("hide, which is too long: label", () -> h.seal.hide(0, 0, 0, 24, 0, 0));
        CHECK.dueIndex("hide, which is too long: seed", () -> h.seal.hide(0, 0, 0, 0, -1, 0));
        CHECK.dueIndex("show with an open key: label", () -> h.seal.show(1, 0, 0, 24, 0));
        CHECK.dueIndex("fill, which is too long: filling", () -> h.seal.fill(0, 0, 24, 0));
        CHECK.dueIndex("sign with an open key: message", () -> h.seal.sign(1, 0, 24, 0));
        CHECK.dueIndex("prove with a short key: signature", () -> h.seal.prove(0, 0, 0, 24));
        CHECK.dueIndex("salt with an open key: salt", () -> h.seal.salt(1, 0, 0, 24, 0));
        CHECK.dueIndex("taste with a short key: message", () -> h.seal.taste(0, 0, -1, 0, 0));
        CHECK.dueIndex("key of nothing: e", () -> new SealHouse().key(0, 0, 24));
        CHECK.dueIndex("open of nothing: e", () -> new SealHouse().open(0, 24));
    }

    private static void keys() {
        CHECK.sentence("IndexOutOfBoundsException: also no such KEY (so below)");
        for (int count : new int[] {0, 1, 2, 15, 16}) {
            House h = new House().put(20, SMALL.n).put(22, SMALL.e);
            for (int k = 0; k < count; k++) {
                h.seal.open(20, 22);
            }
            for (String call : Calls.ALL) {
                String kinds = Calls.kinds(call);
                if (kinds.charAt(0) == 'k') {
                    keysAt(h.seal, count, Calls.name(call), kinds);
                }
            }
        }
    }

    private static void keysAt(SealHouse x, int count, String name, String kinds) {
        for (int key : new int[] {-1, 0, count - 1, count, count + 1, 15, 16, FAR[0], FAR[1]}) {
            int[] told = numbers(kinds, key, 0, key);
            String what = name + Arrays.toString(told) + " of " + count + " keys";
            if (key >= 0 && key < count) {
                CHECK.holds(what, answers(x, name, told));
            } else {
                CHECK.holds(what, isThrown(IndexOutOfBoundsException.class, x, name, told));
            }
        }
    }

    private static void hashes() {
        CHECK.sentence("IllegalArgumentException: another hash (so below)");
        for (String call : Calls.ALL) {
            int place = Calls.kinds(call).indexOf('h');
            if (place < 0) {
                continue;
            }
            House h = threeKeys();
            for (int key = 0; key < (place == 0 ? 1 : 3); key++) {
                for (int hash : new int[] {-1, 0, 1, 2, FAR[0], FAR[1]}) {
                    int[] told = numbers(Calls.kinds(call), key, place, hash);
                    String what = Calls.name(call) + Arrays.toString(told);
                    if (hash == 0 || hash == 1) {
                        CHECK.holds(what, answers(h.seal, Calls.name(call), told));
                    } else {
                        CHECK.holds(what, isThrown(IllegalArgumentException.class, h.seal, Calls.name(call), told));
                    }
                }
            }
        }
    }

    /**
     * Runs a call with slots that are told more than once, and one with copies of their rows in slots of their
     * own: both answer the same and leave the same. The owner of a place is the place whose slot it tells.
     */
    private static void dueAsCopies(String call, Keys key, byte[][] rows, int[] numbers, int[] owners) {
        String kinds = Calls.kinds(call);
        String name = Calls.name(call) + Arrays.toString(numbers) + " with the slots of " + Arrays.toString(owners);
        House one = new House();
        House apart = new House();
        if (key != null) {
            key.whole(one);
            key.whole(apart);
        }
        int[] tellsOne = numbers.clone();
        int[] tellsApart = numbers.clone();
        int to = 0;
        for (int k = 0; k < rows.length; k++) {
            if (kinds.charAt(k) == 's') {
                one.put(k, rows[k]);
                apart.put(k, rows[owners[k]]);
                tellsOne[k] = owners[k];
                tellsApart[k] = k;
                to = k;
            }
        }
        long want = Calls.run(apart.seal, Calls.name(call), tellsApart);
        CHECK.due(name, want, Calls.run(one.seal, Calls.name(call), tellsOne));
        CHECK.holds(name + ": what comes", Arrays.equals(apart.row(to), one.row(owners[to])));
        for (int k = 0; k < rows.length; k++) {
            if (kinds.charAt(k) == 's' && k != owners[to]) {
                CHECK.holds(name + ": row " + k + " stays", one.has(k, rows[k]));
            }
        }
    }

    /** All pairs of places with one slot, either's row in it, and all places with one slot. */
    private static void dueTwice(String call, Keys key, int[] numbers, byte[]... rows) {
        String kinds = Calls.kinds(call);
        int[] own = new int[kinds.length()];
        byte[][] placed = new byte[kinds.length()][];
        for (int k = 0, told = 0; k < own.length; k++) {
            own[k] = k;
            placed[k] = kinds.charAt(k) == 's' ? rows[told++] : new byte[0];
        }
        for (int k = 0; k < own.length; k++) {
            for (int i = 0; i < own.length && kinds.charAt(k) == 's'; i++) {
                if (kinds.charAt(i) == 's' && i != k) {
                    int[] owners = own.clone();
                    owners[i] = k;
                    dueAsCopies(call, key, placed, numbers, owners);
                }
            }
            if (kinds.charAt(k) == 's') {
                int[] all = own.clone();
                for (int i = 0; i < all.length; i++) {
                    all[i] = kinds.charAt(i) == 's' ? k : i;
                }
                dueAsCopies(call, key, placed, numbers, all);
            }
        }
    }

    private static void twice() {
        CHECK.sentence("All calls read their SLOTS before they write, so one may be told more than once.");
    }

    private static int[] told(int... numbers) {
        return numbers;
    }

    private static void rowsTwice() {
        twice();
        byte[] five = Pads.random(1, 5);
        byte[] seven = Pads.random(2, 7);
        byte[] most = Pads.random(3, 128);
        dueTwice("cut snns", null, told(0, 1, 3, 0), five, seven);
        dueTwice("cut snns", null, told(0, 0, 5, 0), five, seven);
        dueTwice("join sss", null, told(0, 0, 0), five, seven, Pads.random(4, 3));
        dueTwice("join sss", null, told(0, 0, 0), most, Pads.random(5, 128), most);
        for (int hash = 0; hash < 2; hash++) {
            dueTwice("digest hss", null, told(hash, 0, 0), Pads.random(6, 100), five);
            dueTwice("mask hsns", null, told(hash, 0, 100, 0), Pads.random(6, 256), five);
            dueTwice("mask hsns", null, told(hash, 0, 256, 0), five, seven);
        }
    }

    private static void numbersTwice() {
        twice();
        byte[] a = Pads.random(11, 128);
        byte[] b = Pads.random(12, 60);
        byte[] c = Pads.random(13, 100);
        b[59] |= 1;
        for (int what = 0; what < 9; what++) {
            dueTwice("calc nssss", null, told(what, 0, 0, 0, 0), a, b, c, House.bytes(0, 7));
            dueTwice("calc nssss", null, told(what, 0, 0, 0, 0), House.bytes(201), House.bytes(100), House.bytes(77),
                    House.bytes(13));
        }
        dueTwice("compare ss", null, told(0, 0), a, b);
        dueTwice("next ss", null, told(0, 0), Pads.random(14, 20), House.bytes(0, 7));
    }

    private static void keysTwice() {
        twice();
        byte[] p = House.fewest(SMALL.p);
        byte[] q = House.fewest(SMALL.q);
        dueTwice("key sss", null, told(0, 0, 0), p, q, House.fewest(SMALL.e));
        dueTwice("open ss", null, told(0, 0), House.fewest(SMALL.n), p);
        for (int how = 0; how < 2; how++) {
            dueTwice("turn knss", SMALL, told(0, how, 0, 0), House.bytes(7), House.bytes(0, 9));
        }
        House one = new House().put(0, p).put(1, q);
        CHECK.due("e is p", 0, one.seal.key(0, 1, 0));
        BigInteger d = SMALL.p.modInverse(Model.lcm(SMALL.p.subtract(ONE), SMALL.q.subtract(ONE)));
        one.seal.part(0, 2, 2);
        CHECK.holds("d, where e is p", one.has(2, d));
    }

    private static void paddingsTwice() {
        twice();
        byte[] m = Pads.filling(21, 20);
        byte[] label = Pads.random(22, 32);
        byte[] seed = Pads.random(23, 32);
        byte[] kept = {0, 9};
        dueTwice("hide khssss", LARGE, told(0, 0, 0, 0, 0, 0), m, label, seed, kept);
        dueTwice("hide khssss", LARGE, told(0, 1, 0, 0, 0, 0), m, Pads.random(2, 28), Pads.random(3, 28), kept);
        byte[] hidden = LARGE.raised(Pads.hidden(0, 128, m, label, seed));
        dueTwice("show khsss", LARGE, told(0, 0, 0, 0, 0), hidden, label, kept);
        Keys odd = new Keys(152, 17, 3);
        dueTwice("fill ksss", odd, told(0, 0, 0, 0), Pads.filling(1, 8), Pads.filling(2, 8), kept);
        byte[] filled = odd.raised(Model.join(House.bytes(0, 2), Pads.filling(2, 8), House.bytes(0), Pads.filling(1, 8)));
        dueTwice("empty kss", odd, told(0, 0, 0), filled, kept);
        dueTwice("sign khss", LARGE, told(0, 0, 0, 0), m, kept);
        dueTwice("prove khss", LARGE, told(0, 0, 0, 0), m, LARGE.lowered(Pads.signed(0, 128, m)));
        dueTwice("salt khsss", LARGE, told(0, 0, 0, 0, 0), m, Pads.random(5, 20), kept);
        dueTwice("taste khssn", LARGE, told(0, 0, 0, 0, 20), m, LARGE.lowered(Pads.salted(0, 1024, m, m)));
    }

    private static void dueStill(long want, Setting setting, String name, int... numbers) {
        CHECK.sentence("A call that answers below 0 changes nothing.");
        Known known = new Known();
        setting.make(known);
        known.feed(20);
        String what = name + Arrays.toString(numbers);
        CHECK.due(what, want, Calls.run(known.seal, name, numbers));
        String changed = known.changed();
        CHECK.holds(what + " has changed " + changed, changed.isEmpty());
    }

    private static void refusedRows() {
        Known full = new Known().feed(260);
        CHECK.sentence("A call that answers below 0 changes nothing.");
        CHECK.due("feed", -1, full.seal.feed(1, 2, 3, 4, 5));
        String changed = full.changed();
        CHECK.holds("feed has changed " + changed, changed.isEmpty());
        dueStill(-1, k -> { }, "octet", 0, 2);
        dueStill(-1, k -> { }, "octet", 0, -1);
        for (int to : new int[] {0, 1, 2}) {
            dueStill(-4, k -> k.put(0, Pads.random(0, 200)).put(1, Pads.random(1, 57)), "join", 0, 1, to);
        }
    }

    private static void refusedNumbers() {
        BigInteger half = BigInteger.TWO.pow(1024);
        BigInteger top = half.multiply(half).subtract(ONE);
        for (int to : new int[] {0, 1, 2, 3}) {
            dueStill(-1, k -> { }, "calc", 1, 0, 1, 2, to);
            for (int what : new int[] {3, 4, 7}) {
                dueStill(-2, k -> k.put(1), "calc", what, 0, 1, 2, to);
            }
            dueStill(-2, k -> k.put(2, 0, 0), "calc", 8, 0, 1, 2, to);
            dueStill(-3, k -> k.put(0, 0, 6).put(1, 0, 9), "calc", 7, 0, 1, 2, to);
            dueStill(-4, k -> k.put(0, top).put(1, ONE), "calc", 0, 0, 1, 2, to);
            dueStill(-4, k -> k.put(0, half).put(1, half), "calc", 2, 0, 1, 2, to);
            dueStill(-4, k -> k.put(0, half).put(1, half.add(ONE)), "calc", 6, 0, 1, 2, to);
            dueStill(-4, k -> k.put(2, half), "calc", 8, 0, 1, 2, to);
        }
        dueStill(-1, k -> { }, "compare", 0, 1);
        for (int to : new int[] {0, 1}) {
            dueStill(-1, k -> k.put(0, BigInteger.TWO.pow(512).subtract(ONE)), "next", 0, to);
            dueStill(-4, k -> k.put(0, BigInteger.TWO.pow(512)), "next", 0, to);
        }
    }

    private static void refusedKeys() {
        Setting parts = k -> k.whole(SMALL).open(LARGE).put(0, SMALL.p).put(1, SMALL.q).put(2, 0, 3).put(3, SMALL.n)
                .put(4, SMALL.p.subtract(ONE).shiftRight(SMALL.p.subtract(ONE).getLowestSetBit())).put(5, 0, 4)
                .put(6, SMALL.p.add(ONE));
        dueStill(-1, parts, "key", 2, 2, 2);
        dueStill(-2, parts, "key", 6, 1, 2);
        dueStill(-3, parts, "key", 0, 0, 2);
        dueStill(-4, parts, "key", 0, 1, 5);
        dueStill(-5, parts, "key", 0, 1, 4);
        dueStill(-1, parts, "open", 0, 2);
        dueStill(-4, parts, "open", 3, 5);
        for (int what = 2; what < 8; what++) {
            dueStill(-2, parts, "part", 1, what, 7);
        }
        for (int to : new int[] {3, 7}) {
            dueStill(-1, parts, "turn", 0, 0, 3, to);
            dueStill(-1, parts, "turn", 0, 1, 3, to);
            dueStill(-2, parts, "turn", 1, 1, 3, to);
        }
    }

    private static void refusedFullRing() {
        Setting full = k -> {
            k.whole(SMALL);
            for (int count = 1; count < 16; count++) {
                k.open(SMALL);
            }
            k.put(0, SMALL.p).put(1, SMALL.q).put(2, SMALL.e).put(3, SMALL.n);
        };
        dueStill(-6, full, "key", 0, 1, 2);
        dueStill(-6, full, "open", 3, 2);
    }

    private static void refusedPaddings() {
        Setting keys = k -> k.whole(MIDDLE).open(MIDDLE).whole(SMALL).put(0, Pads.filling(0, 20))
                .put(1, new byte[MIDDLE.length()]).put(2, Pads.filling(0, 65));
        for (int hash = 0; hash < 2; hash++) {
            for (int to : new int[] {0, 1, 2, 3}) {
                dueStill(-3, keys, "hide", 0, hash, 2, 1, 0, to);
                dueStill(-4, keys, "hide", 0, hash, 3, 1, 0, to);
                dueStill(-2, keys, "show", 1, hash, 1, 0, to);
                dueStill(-5, keys, "show", 0, hash, 1, 0, to);
                dueStill(-2, keys, "sign", 1, hash, 0, to);
                dueStill(-6, keys, "sign", 2, hash, 0, to);
                dueStill(-2, keys, "salt", 1, hash, 0, 3, to);
                dueStill(-6, keys, "salt", 2, hash, 0, 3, to);
            }
            dueStill(-6, keys, "prove", 2, hash, 0, 1);
        }
        for (int to : new int[] {0, 1, 2, 3}) {
            dueStill(-3, keys, "fill", 0, 2, 0, to);
            dueStill(-4, keys, "fill", 0, 0, 2, to);
            dueStill(-2, keys, "empty", 1, 1, to);
            dueStill(-5, keys, "empty", 0, 1, to);
        }
    }
}
