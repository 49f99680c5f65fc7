import java.math.BigInteger;
import java.util.Random;

/** All promises at once: runs of chance calls, each answer and each row held against the model's. */
final class RandomRunsTest {
    private static final Check CHECK = new Check();
    private static final int RUNS = 300;
    private static final int CALLS = 512;
    private static final int[] PRIME_BITS = {2, 3, 8, 16, 24, 28, 29, 32, 33, 40, 56, 64, 80, 128, 200, 256, 264, 400, 512};

    private final SealHouse house = new SealHouse();
    private final Model model = new Model();
    private final Random random;
    private final String name;
    /** The slot that the last call may have written. */
    private int target = 0;
    private int made = 0;

    private RandomRunsTest(int seed) {
        random = new Random(seed);
        name = "run " + seed;
    }

    public static void main(String[] args) {
        for (int seed = 0; seed < RUNS; seed++) {
            new RandomRunsTest(seed).run();
        }
        CHECK.end();
    }

    private void run() {
        for (int k = 0; k < 4; k++) {
            putKey();
        }
        while (made < CALLS - 40) {
            if (random.nextInt(3) == 0) {
                putSomething();
            }
            step(random.nextInt(27));
        }
        for (int slot = 0; slot < 24 && made < CALLS - 1; slot++) {
            target = slot;
            lookAtTarget();
        }
    }

    /** Mostly a slot, and mostly one of the few that are much used. */
    private int slot() {
        int chance = random.nextInt(100);
        if (chance == 0) {
            return random.nextBoolean() ? -1 : 24;
        }
        return chance < 80 ? random.nextInt(7) : random.nextInt(24);
    }

    private int key() {
        return random.nextInt(50) == 0 ? random.nextInt(20) - 2 : random.nextInt(Math.max(model.keys(), 1));
    }

    private int hash() {
        return random.nextInt(40) == 0 ? random.nextInt(5) - 2 : random.nextInt(2);
    }

    private int small(int bound) {
        return random.nextInt(30) == 0 ? random.nextInt() : random.nextInt(bound + 2) - 1;
    }

    private void both(String what, Check.Call its, Check.Call due) {
        made++;
        long want = answerOf(due);
        long got = answerOf(its);
        CHECK.due(name + ", call " + made + ", " + what, want, got);
    }

    private static long answerOf(Check.Call call) {
        try {
            return call.run();
        } catch (RuntimeException thrown) {
            if (thrown.getClass() == IndexOutOfBoundsException.class) {
                return Long.MIN_VALUE;
            }
            if (thrown.getClass() == IllegalArgumentException.class) {
                return Long.MAX_VALUE;
            }
            throw thrown;
        }
    }

    private void put(int slot, byte[] row) {
        for (int from = 0; from < row.length; from += 20) {
            int[] w = new int[5];
            for (int k = 0; k < 5; k++) {
                w[k] = House.word(row, from + 4 * k);
            }
            both("feed", () -> house.feed(w[0], w[1], w[2], w[3], w[4]), () -> model.feed(w[0], w[1], w[2], w[3], w[4]));
        }
        load(slot, row.length);
    }

    private void load(int slot, int n) {
        target = slot;
        both("load " + slot + " " + n, () -> {
            house.load(slot, n);
            return 0;
        }, () -> model.load(slot, n));
    }

    private void putKey() {
        int bits = 57 + random.nextInt(random.nextInt(3) == 0 ? 968 : 500);
        Keys key = new Keys(bits, random.nextBoolean() ? 65537 : 257, random.nextInt(3));
        put(4, House.fewest(key.p));
        put(5, House.fewest(key.q));
        put(6, House.fewest(key.e));
        if (random.nextInt(5) == 0) {
            calc(2, 4, 5, 5, 4);
            both("open", () -> house.open(4, 6), () -> model.open(4, 6));
        } else {
            both("key", () -> house.key(4, 5, 6), () -> model.key(4, 5, 6));
        }
    }

    private void putSomething() {
        int slot = random.nextInt(7);
        switch (random.nextInt(6)) {
            case 0 -> put(slot, House.fewest(BigInteger.probablePrime(PRIME_BITS[random.nextInt(PRIME_BITS.length)], random)));
            case 1 -> put(slot, House.bytes(random.nextInt(256)));
            case 2 -> put(slot, House.times(255 * random.nextInt(2), random.nextInt(257)));
            case 3 -> put(slot, chance(random.nextBoolean() ? 32 : 28));
            case 4 -> put(slot, chance(random.nextInt(257)));
            default -> put(slot, chance(random.nextInt(40)));
        }
    }

    private byte[] chance(int count) {
        byte[] row = new byte[count];
        random.nextBytes(row);
        return row;
    }

    private void calc(int what, int a, int b, int c, int to) {
        target = to;
        both("calc " + what, () -> house.calc(what, a, b, c, to), () -> model.calc(what, a, b, c, to));
    }

    private void lookAtTarget() {
        int slot = target;
        if (slot < 0 || slot > 23) {
            return;
        }
        both("size", () -> house.size(slot), () -> model.size(slot));
        int last = model.slots[slot].length - 1;
        for (int k : new int[] {0, last, random.nextInt(last + 2), random.nextInt(last + 2)}) {
            both("octet", () -> house.octet(slot, k), () -> model.octet(slot, k));
        }
    }

    private void step(int call) {
        int a = slot();
        int b = slot();
        int c = slot();
        int to = slot();
        target = to;
        if (call < 11) {
            stepOnRows(call, a, b, c, to);
        } else {
            stepWithKeys(call, a, b, c, to);
        }
        lookAtTarget();
    }

    private void stepOnRows(int call, int a, int b, int c, int to) {
        int i = small(20);
        int n = small(call == 9 ? 256 : 20);
        switch (call) {
            case 0 -> load(to, n);
            case 1 -> both("cut", () -> house.cut(a, i, n, to), () -> model.cut(a, i, n, to));
            case 2 -> both("join", () -> house.join(a, b, to), () -> model.join(a, b, to));
            case 3 -> both("change", () -> house.change(to, i, n), () -> model.change(to, i, n));
            case 4 -> calc(random.nextInt(40) == 0 ? small(12) : random.nextInt(9), a, b, c, to);
            case 5 -> both("compare", () -> house.compare(a, b), () -> model.compare(a, b));
            case 6 -> both("bits", () -> house.bits(a), () -> model.bits(a));
            case 7 -> both("probable", () -> house.probable(a) ? 1 : 0, () -> model.probable(a));
            case 8 -> both("digest", () -> house.digest(i % 3, a, to), () -> model.digest(i % 3, a, to));
            case 9 -> both("mask", () -> house.mask(i & 1, a, n, to), () -> model.mask(i & 1, a, n, to));
            default -> both("next", () -> house.next(a, to), () -> model.next(a, to));
        }
    }

    private void stepWithKeys(int call, int a, int b, int c, int to) {
        int key = key();
        int hash = hash();
        int what = small(8);
        switch (call) {
            case 11 -> both("key", () -> house.key(a, b, c), () -> model.key(a, b, c));
            case 12 -> both("open", () -> house.open(a, b), () -> model.open(a, b));
            case 13 -> both("part", () -> house.part(key, what, to), () -> model.part(key, what, to));
            case 14 -> both("turn", () -> house.turn(key, hash, a, to), () -> model.turn(key, hash, a, to));
            case 15 -> hideAndShow(key, hash, a, b, to);
            case 16 -> both("show", () -> house.show(key, hash, a, b, to), () -> model.show(key, hash, a, b, to));
            case 17 -> fillAndEmpty(key, a, to);
            case 18 -> both("empty", () -> house.empty(key, a, to), () -> model.empty(key, a, to));
            case 19 -> both("sign", () -> house.sign(key, hash, a, to), () -> model.sign(key, hash, a, to));
            case 20, 21 -> signAndProve(key, hash, a, to);
            case 22 -> both("salt", () -> house.salt(key, hash, a, b, to), () -> model.salt(key, hash, a, b, to));
            case 23, 24 -> saltAndTaste(key, hash, a, to);
            case 25 -> both("taste", () -> house.taste(key, hash, a, b, what), () -> model.taste(key, hash, a, b, what));
            default -> both("keys", house::keys, model::keys);
        }
    }

    /** Now and then one bit of what was made is changed before it is taken apart again. */
    private void bend(int slot) {
        if (random.nextInt(3) == 0) {
            int k = random.nextInt(100);
            int v = random.nextInt(256);
            both("change", () -> house.change(slot, k, v), () -> model.change(slot, k, v));
        }
    }

    private int lengthOf(int key) {
        return key < 0 || key >= model.keys() ? 8 : Model.bytesOf(model.keys.get(key)[0]);
    }

    private void hideAndShow(int key, int hash, int label, int from, int to) {
        int fits = lengthOf(key) - (hash == 0 ? 66 : 58);
        put(1, chance(Math.max(0, fits + random.nextInt(4) - 2 - random.nextInt(2) * Math.max(0, fits / 2))));
        put(2, chance(hash == 0 ? 32 : 28));
        target = to;
        both("hide", () -> house.hide(key, hash, 1, label, 2, to), () -> model.hide(key, hash, 1, label, 2, to));
        bend(to);
        int other = random.nextInt(4) == 0 ? from : label;
        both("show", () -> house.show(key, hash, to, other, to), () -> model.show(key, hash, to, other, to));
    }

    private void fillAndEmpty(int key, int message, int to) {
        int count = message < 0 || message > 23 ? 0 : model.slots[message].length;
        byte[] filling = chance(Math.max(0, lengthOf(key) - 3 - count));
        for (int k = 0; k < filling.length; k++) {
            filling[k] = filling[k] == 0 ? 7 : filling[k];
        }
        put(2, filling);
        target = to;
        both("fill", () -> house.fill(key, message, 2, to), () -> model.fill(key, message, 2, to));
        bend(to);
        both("empty", () -> house.empty(key, to, to), () -> model.empty(key, to, to));
    }

    private void signAndProve(int key, int hash, int message, int to) {
        both("sign", () -> house.sign(key, hash, message, to), () -> model.sign(key, hash, message, to));
        bend(to);
        both("prove", () -> house.prove(key, hash, message, to), () -> model.prove(key, hash, message, to));
    }

    private void saltAndTaste(int key, int hash, int message, int to) {
        int fits = lengthOf(key) - (hash == 0 ? 34 : 30);
        int x = Math.max(0, fits - 1 - random.nextInt(3) * Math.max(0, fits / 3));
        put(1, chance(x));
        target = to;
        both("salt", () -> house.salt(key, hash, message, 1, to), () -> model.salt(key, hash, message, 1, to));
        bend(to);
        int told = random.nextInt(5) == 0 ? x + 1 : x;
        both("taste", () -> house.taste(key, hash, message, to, told), () -> model.taste(key, hash, message, to, told));
    }
}
