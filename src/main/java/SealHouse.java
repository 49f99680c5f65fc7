/**
 * A house of seals: keys made of two primes, messages hidden and shown, signed and proved.
 *
 * <p>All rows and numbers that calls work with are made in the constructor and used again: a call
 * makes no object but the exception that it throws or the key that it keeps.
 */
public final class SealHouse {
    public static final int NONE = -1;

    private static final int SLOT_COUNT = 24;
    private static final int ROW_ROOM = 256;
    private static final int TAPE_ROOM = 260;
    private static final int KEY_COUNT = 16;

    private static final int LEAST_MODULUS = 8;
    private static final int MOST_MODULUS = 128;
    private static final int MOST_CANDIDATE = 64;
    private static final int CANDIDATES = 2000;

    /* What the refusals of calc are called in the document. */
    private static final int BELOW_ZERO = -1;
    private static final int BY_ZERO = -2;
    private static final int NO_INVERSE = -3;
    private static final int TOO_LONG = -4;

    /* The refusals of a key, in the order in which they are looked at. */
    private static final int BAD_MODULUS = -1;
    private static final int NOT_PROBABLE = -2;
    private static final int COMMON_DIVISOR = -3;
    private static final int BAD_EXPONENT = -4;
    private static final int NO_LOWERING = -5;
    private static final int TOO_MANY_KEYS = -6;

    /* The refusals of the calls that use a key. */
    private static final int NOT_BELOW = -1;
    private static final int IS_OPEN = -2;
    private static final int LONG_MESSAGE = -3;
    private static final int BAD_FILLING = -4;
    private static final int NOT_SHOWN = -5;
    private static final int SHORT_KEY = -6;

    private static final int RAISE = 0;
    private static final int LOWER = 1;

    private final Row[] slots;
    private final Row tape;
    private final Key[] ring;
    private int ringed;
    private final Desk desk;
    private final Digester digester;
    private final Padder padder;
    private final Row answer;
    private final Row block;
    private final Whole first;
    private final Whole second;
    private final Whole third;
    private final Whole result;
    private final Whole lessP;
    private final Whole lessQ;
    private final Whole common;

    public SealHouse() {
        slots = new Row[SLOT_COUNT];
        for (int k = 0; k < SLOT_COUNT; k++) {
            slots[k] = new Row(ROW_ROOM);
        }
        tape = new Row(TAPE_ROOM);
        ring = new Key[KEY_COUNT];
        ringed = 0;
        desk = new Desk();
        digester = new Digester();
        padder = new Padder(digester);
        answer = new Row(ROW_ROOM);
        block = new Row(ROW_ROOM);
        first = new Whole();
        second = new Whole();
        third = new Whole();
        result = new Whole();
        lessP = new Whole();
        lessQ = new Whole();
        common = new Whole();
    }

    public int feed(int a, int b, int c, int d, int e) {
        if (tape.length + 20 > TAPE_ROOM) {
            return NONE;
        }
        tape.addWord(a);
        tape.addWord(b);
        tape.addWord(c);
        tape.addWord(d);
        tape.addWord(e);
        return tape.length;
    }

    public void load(int slot, int n) throws IndexOutOfBoundsException, IllegalArgumentException {
        Row target = slotAt(slot);
        if (n < 0 || n > tape.length || n > ROW_ROOM) {
            throw new IllegalArgumentException("the tape has not so many bytes for a row");
        }
        target.takePart(tape, 0, n);
        tape.length = 0;
    }

    public int size(int slot) throws IndexOutOfBoundsException {
        return slotAt(slot).length;
    }

    public int octet(int slot, int k) throws IndexOutOfBoundsException {
        Row row = slotAt(slot);
        return row.has(k) ? row.at(k) : NONE;
    }

    public int cut(int from, int i, int n, int to) throws IndexOutOfBoundsException, IllegalArgumentException {
        Row row = slotAt(from);
        Row target = slotAt(to);
        if (i < 0 || n < 0 || i > row.length || n > row.length - i) {
            throw new IllegalArgumentException("the row has not so many bytes there");
        }
        answer.takePart(row, i, n);
        target.take(answer);
        return n;
    }

    public int join(int a, int b, int to) throws IndexOutOfBoundsException {
        Row ahead = slotAt(a);
        Row behind = slotAt(b);
        Row target = slotAt(to);
        if (ahead.length + behind.length > ROW_ROOM) {
            return TOO_LONG;
        }
        answer.take(ahead);
        answer.addRow(behind);
        target.take(answer);
        return target.length;
    }

    public int change(int slot, int k, int v) throws IndexOutOfBoundsException, IllegalArgumentException {
        Row row = slotAt(slot);
        if (!row.has(k)) {
            throw new IllegalArgumentException("the row has no such byte");
        }
        int had = row.at(k);
        row.put(k, v);
        return had;
    }

    public int calc(int what, int a, int b, int c, int to) throws IndexOutOfBoundsException, IllegalArgumentException {
        Row rowA = slotAt(a);
        Row rowB = slotAt(b);
        Row rowC = slotAt(c);
        Row target = slotAt(to);
        if (what < 0 || what > 8) {
            throw new IllegalArgumentException("there is no such reckoning");
        }
        first.read(rowA);
        second.read(rowB);
        third.read(rowC);
        int refusal = what < 5 ? reckonPlain(what) : reckonDeep(what);
        return refusal < 0 ? refusal : putFewest(result, target);
    }

    public int compare(int a, int b) throws IndexOutOfBoundsException {
        Row rowA = slotAt(a);
        Row rowB = slotAt(b);
        first.read(rowA);
        second.read(rowB);
        return first.order(second);
    }

    public int bits(int slot) throws IndexOutOfBoundsException {
        first.read(slotAt(slot));
        return first.bitLength();
    }

    public boolean probable(int slot) throws IndexOutOfBoundsException {
        first.read(slotAt(slot));
        return desk.isProbable(first);
    }

    public int next(int from, int to) throws IndexOutOfBoundsException {
        Row row = slotAt(from);
        Row target = slotAt(to);
        first.read(row);
        if (first.byteLength() > MOST_CANDIDATE) {
            return TOO_LONG;
        }
        for (int k = 0; k < CANDIDATES; k++) {
            first.addSmall(1);
            if (desk.isProbable(first)) {
                return putFewest(first, target);
            }
        }
        return NONE;
    }

    public int digest(int hash, int from, int to) throws IndexOutOfBoundsException, IllegalArgumentException {
        Row row = slotAt(from);
        Row target = slotAt(to);
        checkHash(hash);
        answer.length = 0;
        digester.addDigest(hash, row, answer);
        target.take(answer);
        return target.length;
    }

    public int mask(int hash, int from, int n, int to) throws IndexOutOfBoundsException, IllegalArgumentException {
        Row row = slotAt(from);
        Row target = slotAt(to);
        checkHash(hash);
        if (n < 0 || n > ROW_ROOM) {
            throw new IllegalArgumentException("no row is so long");
        }
        digester.setMask(hash, row, n, answer);
        target.take(answer);
        return n;
    }

    public int key(int p, int q, int e) throws IndexOutOfBoundsException {
        Row rowP = slotAt(p);
        Row rowQ = slotAt(q);
        Row rowE = slotAt(e);
        first.read(rowP);
        second.read(rowQ);
        third.read(rowE);
        int refusal = refusalOfPrimes();
        if (refusal == 0) {
            refusal = refusalOfExponent();
        }
        if (refusal != 0) {
            return refusal;
        }
        return ringed < KEY_COUNT ? keep(wholeKey()) : TOO_MANY_KEYS;
    }

    public int open(int n, int e) throws IndexOutOfBoundsException {
        Row rowN = slotAt(n);
        Row rowE = slotAt(e);
        result.read(rowN);
        third.read(rowE);
        if (!isModulusLength(result.byteLength())) {
            return BAD_MODULUS;
        }
        if (!isExponent(third, result) || !result.isOdd()) {
            return BAD_EXPONENT;
        }
        return ringed < KEY_COUNT ? keep(new Key(Key.OPEN_PARTS, result, third)) : TOO_MANY_KEYS;
    }

    public int part(int key, int what, int to) throws IndexOutOfBoundsException, IllegalArgumentException {
        Key told = keyAt(key);
        Row target = slotAt(to);
        if (what < 0 || what >= Key.ALL_PARTS) {
            throw new IllegalArgumentException("a key has no such part");
        }
        return told.has(what) ? putFewest(told.at(what), target) : IS_OPEN;
    }

    public int turn(int key, int how, int from, int to) throws IndexOutOfBoundsException, IllegalArgumentException {
        Key told = keyAt(key);
        Row row = slotAt(from);
        Row target = slotAt(to);
        if (how != RAISE && how != LOWER) {
            throw new IllegalArgumentException("a number is raised or lowered");
        }
        if (how == LOWER && told.isOpen()) {
            return IS_OPEN;
        }
        if (!turnRow(told, how, row)) {
            return NOT_BELOW;
        }
        target.take(block);
        return told.length;
    }

    public int hide(int key, int hash, int message, int label, int seed, int to)
            throws IndexOutOfBoundsException, IllegalArgumentException {
        Key told = keyAt(key);
        Row messageRow = slotAt(message);
        Row labelRow = slotAt(label);
        Row seedRow = slotAt(seed);
        Row target = slotAt(to);
        checkHash(hash);
        int h = Digester.lengthOf(hash);
        if (messageRow.length > told.length - 2 * h - 2) {
            return LONG_MESSAGE;
        }
        if (seedRow.length != h) {
            return BAD_FILLING;
        }
        padder.hideIn(answer, told.length, hash, messageRow, labelRow, seedRow);
        return putTurned(told, RAISE, target);
    }

    public int show(int key, int hash, int from, int label, int to)
            throws IndexOutOfBoundsException, IllegalArgumentException {
        Key told = keyAt(key);
        Row row = slotAt(from);
        Row labelRow = slotAt(label);
        Row target = slotAt(to);
        checkHash(hash);
        if (told.isOpen()) {
            return IS_OPEN;
        }
        if (told.length < 2 * Digester.lengthOf(hash) + 2 || !turnWholeRow(told, LOWER, row)
                || !padder.showFrom(block, hash, labelRow, answer)) {
            return NOT_SHOWN;
        }
        target.take(answer);
        return target.length;
    }

    public int fill(int key, int message, int filling, int to) throws IndexOutOfBoundsException {
        Key told = keyAt(key);
        Row messageRow = slotAt(message);
        Row fillingRow = slotAt(filling);
        Row target = slotAt(to);
        if (messageRow.length > told.length - 11) {
            return LONG_MESSAGE;
        }
        if (fillingRow.length != told.length - 3 - messageRow.length
                || fillingRow.othersFrom(0) < fillingRow.length) {
            return BAD_FILLING;
        }
        padder.fillIn(answer, messageRow, fillingRow);
        return putTurned(told, RAISE, target);
    }

    public int empty(int key, int from, int to) throws IndexOutOfBoundsException {
        Key told = keyAt(key);
        Row row = slotAt(from);
        Row target = slotAt(to);
        if (told.isOpen()) {
            return IS_OPEN;
        }
        if (told.length < 11 || !turnWholeRow(told, LOWER, row) || !padder.emptyFrom(block, answer)) {
            return NOT_SHOWN;
        }
        target.take(answer);
        return target.length;
    }

    public int sign(int key, int hash, int message, int to) throws IndexOutOfBoundsException, IllegalArgumentException {
        Key told = keyAt(key);
        Row messageRow = slotAt(message);
        Row target = slotAt(to);
        checkHash(hash);
        if (told.isOpen()) {
            return IS_OPEN;
        }
        if (told.length < Padder.leastSigned(hash)) {
            return SHORT_KEY;
        }
        padder.signIn(answer, told.length, hash, messageRow);
        return putTurned(told, LOWER, target);
    }

    public int prove(int key, int hash, int message, int signature)
            throws IndexOutOfBoundsException, IllegalArgumentException {
        Key told = keyAt(key);
        Row messageRow = slotAt(message);
        Row row = slotAt(signature);
        checkHash(hash);
        if (told.length < Padder.leastSigned(hash)) {
            return SHORT_KEY;
        }
        if (!turnWholeRow(told, RAISE, row)) {
            return 0;
        }
        padder.signIn(answer, told.length, hash, messageRow);
        return block.holds(answer, 0) ? 1 : 0;
    }

    public int salt(int key, int hash, int message, int salt, int to)
            throws IndexOutOfBoundsException, IllegalArgumentException {
        Key told = keyAt(key);
        Row messageRow = slotAt(message);
        Row saltRow = slotAt(salt);
        Row target = slotAt(to);
        checkHash(hash);
        if (told.isOpen()) {
            return IS_OPEN;
        }
        int room = told.at(Key.N).bitLength() - 1;
        if (Padder.bytesOf(room) < Digester.lengthOf(hash) + saltRow.length + 2) {
            return SHORT_KEY;
        }
        padder.saltIn(answer, room, hash, messageRow, saltRow);
        return putTurned(told, LOWER, target);
    }

    public int taste(int key, int hash, int message, int signature, int x)
            throws IndexOutOfBoundsException, IllegalArgumentException {
        Key told = keyAt(key);
        Row messageRow = slotAt(message);
        Row row = slotAt(signature);
        checkHash(hash);
        if (x < 0 || x > ROW_ROOM) {
            throw new IllegalArgumentException("no salt is so long");
        }
        int room = told.at(Key.N).bitLength() - 1;
        if (Padder.bytesOf(room) < Digester.lengthOf(hash) + x + 2 || !turnWholeRow(told, RAISE, row)) {
            return 0;
        }
        return padder.tasteFrom(block, room, hash, messageRow, x) ? 1 : 0;
    }

    public int keys() {
        return ringed;
    }

    private Row slotAt(int slot) {
        if (slot < 0 || slot >= SLOT_COUNT) {
            throw new IndexOutOfBoundsException("there is no such slot");
        }
        return slots[slot];
    }

    private Key keyAt(int key) {
        if (key < 0 || key >= KEY_COUNT || ring[key] == null) {
            throw new IndexOutOfBoundsException("there is no such key");
        }
        return ring[key];
    }

    private void checkHash(int hash) {
        if (hash != 0 && hash != 1) {
            throw new IllegalArgumentException("there is no such hash");
        }
    }

    private int putFewest(Whole number, Row target) {
        int count = number.byteLength();
        if (count > ROW_ROOM) {
            return TOO_LONG;
        }
        number.write(target, count);
        return count;
    }

    /** Reckonings 0 to 4 of first and second, into result: 0, or the refusal. */
    private int reckonPlain(int what) {
        switch (what) {
            case 0:
                result.setSum(first, second);
                return 0;
            case 1:
                if (first.order(second) < 0) {
                    return BELOW_ZERO;
                }
                result.setDifference(first, second);
                return 0;
            case 2:
                return desk.multiply(first, second, result) ? 0 : TOO_LONG;
            default:
                if (second.isZero()) {
                    return BY_ZERO;
                }
                desk.divide(first, second, result);
                if (what == 3) {
                    result.set(desk.quotient);
                }
                return 0;
        }
    }

    /** Reckonings 5 to 8 of first, second and third, into result: 0, or the refusal. */
    private int reckonDeep(int what) {
        switch (what) {
            case 5:
                desk.findDivisor(first, second, result);
                return 0;
            case 6:
                return desk.findMultiple(first, second, result) ? 0 : TOO_LONG;
            case 7:
                if (second.isZero()) {
                    return BY_ZERO;
                }
                return desk.invert(first, second, result) ? 0 : NO_INVERSE;
            default:
                if (third.isZero()) {
                    return BY_ZERO;
                }
                if (third.byteLength() > MOST_MODULUS) {
                    return TOO_LONG;
                }
                desk.power(first, second, third, result);
                return 0;
        }
    }

    private static boolean isModulusLength(int count) {
        return count >= LEAST_MODULUS && count <= MOST_MODULUS;
    }

    private static boolean isExponent(Whole e, Whole n) {
        return e.isOdd() && !e.isSmall(1) && e.order(n) < 0;
    }

    private boolean haveCommonDivisor(Whole a, Whole b) {
        desk.findDivisor(a, b, common);
        return !common.isSmall(1);
    }

    /** Looks at first and second as the primes of a key and leaves n in result: 0, or the refusal. */
    private int refusalOfPrimes() {
        if (!desk.multiply(first, second, result) || !isModulusLength(result.byteLength())) {
            return BAD_MODULUS;
        }
        if (first.isSmall(2) || second.isSmall(2) || !desk.isProbable(first) || !desk.isProbable(second)) {
            return NOT_PROBABLE;
        }
        return haveCommonDivisor(first, second) ? COMMON_DIVISOR : 0;
    }

    /** Looks at third as the exponent that goes with first, second and their product in result. */
    private int refusalOfExponent() {
        if (!isExponent(third, result)) {
            return BAD_EXPONENT;
        }
        lessP.setLess(first);
        lessQ.setLess(second);
        return haveCommonDivisor(third, lessP) || haveCommonDivisor(third, lessQ) ? NO_LOWERING : 0;
    }

    /** The key of first, second and third: n is in result, and what is one less than p and q stands ready. */
    private Key wholeKey() {
        Key made = new Key(Key.ALL_PARTS, result, third);
        made.at(Key.P).set(first);
        made.at(Key.Q).set(second);
        desk.findMultiple(lessP, lessQ, result);
        desk.invert(third, result, made.at(Key.D));
        desk.divide(made.at(Key.D), lessP, made.at(Key.DP));
        desk.divide(made.at(Key.D), lessQ, made.at(Key.DQ));
        desk.invert(second, first, made.at(Key.QI));
        return made;
    }

    private int keep(Key made) {
        if (ringed < 0 || ringed >= KEY_COUNT) {
            return TOO_MANY_KEYS;
        }
        ring[ringed] = made;
        ringed++;
        return ringed - 1;
    }

    /** Turns a row's number into block, K bytes long; false, doing nothing, if it is not below n. */
    private boolean turnRow(Key told, int how, Row row) {
        first.read(row);
        if (first.order(told.at(Key.N)) >= 0) {
            return false;
        }
        desk.power(first, told.at(how == RAISE ? Key.E : Key.D), told.at(Key.N), result);
        result.write(block, told.length);
        return true;
    }

    /** The same for what came from outside, which must be just as long as n. */
    private boolean turnWholeRow(Key told, int how, Row row) {
        return row.length == told.length && turnRow(told, how, row);
    }

    /** Turns what was padded in answer; a padded row is always below n. */
    private int putTurned(Key told, int how, Row target) {
        turnRow(told, how, answer);
        target.take(block);
        return target.length;
    }

    /** Bytes in a room that is made once; every way in looks at the room, every way out at the length. */
    private static final class Row {
        private final byte[] bytes;
        int length;

        Row(int room) {
            bytes = new byte[room < 0 ? 0 : room];
            length = 0;
        }

        boolean has(int k) {
            return k >= 0 && k < length;
        }

        int at(int k) {
            return k >= 0 && k < length ? bytes[k] & 255 : 0;
        }

        void put(int k, int value) {
            if (k >= 0 && k < length) {
                bytes[k] = (byte) value;
            }
        }

        void add(int value) {
            if (length >= 0 && length < bytes.length) {
                bytes[length] = (byte) value;
                length++;
            }
        }

        void addWord(int word) {
            add(word >> 24);
            add(word >> 16);
            add(word >> 8);
            add(word);
        }

        void addTimes(int value, int times) {
            for (int k = 0; k < times; k++) {
                add(value);
            }
        }

        void addPart(Row other, int from, int count) {
            for (int k = 0; k < count; k++) {
                add(other.at(from + k));
            }
        }

        void addRow(Row other) {
            addPart(other, 0, other.length);
        }

        void take(Row other) {
            takePart(other, 0, other.length);
        }

        /** The other row is never this one: its bytes would be gone before they are read. */
        void takePart(Row other, int from, int count) {
            length = 0;
            addPart(other, from, count);
        }

        void mixWith(Row other) {
            for (int k = 0; k < length; k++) {
                put(k, at(k) ^ other.at(k));
            }
        }

        boolean holds(Row part, int from) {
            if (part.length > length - from) {
                return false;
            }
            for (int k = 0; k < part.length; k++) {
                if (at(from + k) != part.at(k)) {
                    return false;
                }
            }
            return true;
        }

        /** How many bytes from a place on come before the first 0, or the end. */
        int othersFrom(int from) {
            for (int k = from; k < length; k++) {
                if (at(k) == 0) {
                    return k - from;
                }
            }
            return length - from;
        }

        /** How many bytes from a place on are 0 one behind the other. */
        int zerosFrom(int from) {
            for (int k = from; k < length; k++) {
                if (at(k) != 0) {
                    return k - from;
                }
            }
            return length - from;
        }
    }

    /**
     * A whole number from 0 on in limbs of 28 bits, the lowest first. So many bits and no more, that
     * forty products of two limbs still add up in one long without a look at the carry.
     */
    private static final class Whole {
        static final int LIMB_BITS = 28;
        static final long LIMB_MASK = (1L << LIMB_BITS) - 1;
        /** Room for 2,049 bits moved up by less than a limb, and for the limb that a division needs above. */
        static final int ROOM = 80;
        static final int MOST_BITS = 2048;

        final long[] limbs;
        /** How many limbs count; the highest of them is not 0, and what stands above is old. */
        int used;

        Whole() {
            limbs = new long[ROOM];
            used = 0;
        }

        boolean isZero() {
            return used == 0;
        }

        boolean isOdd() {
            return used > 0 && (limbs[0] & 1) == 1;
        }

        /** Whether this is a told value above 0 and of less than a limb. */
        boolean isSmall(int value) {
            return used == 1 && limbs[0] == value;
        }

        long limbAt(int k) {
            return k >= 0 && k < used && k < ROOM ? limbs[k] : 0;
        }

        int bitLength() {
            if (used == 0) {
                return 0;
            }
            return (used - 1) * LIMB_BITS + widthOf(limbAt(used - 1));
        }

        int byteLength() {
            return (bitLength() + 7) / 8;
        }

        boolean hasBit(int k) {
            return k >= 0 && (limbAt(k / LIMB_BITS) >> (k % LIMB_BITS) & 1) == 1;
        }

        static int widthOf(long limb) {
            for (int k = LIMB_BITS; k > 0; k--) {
                if ((limb >> (k - 1)) != 0) {
                    return k;
                }
            }
            return 0;
        }

        int order(Whole other) {
            if (used != other.used) {
                return used < other.used ? -1 : 1;
            }
            for (int k = used - 1; k >= 0; k--) {
                long mine = limbAt(k);
                long its = other.limbAt(k);
                if (mine != its) {
                    return mine < its ? -1 : 1;
                }
            }
            return 0;
        }

        /** Takes the lowest limbs, so many as were written, and leaves off the zeros above. */
        void trim(int written) {
            for (int k = written < ROOM ? written : ROOM; k > 0; k--) {
                if (limbs[k - 1] != 0) {
                    used = k;
                    return;
                }
            }
            used = 0;
        }

        /** A value of less than a limb. */
        void setSmall(long value) {
            limbs[0] = value;
            trim(1);
        }

        void set(Whole other) {
            int count = other.used < ROOM ? other.used : ROOM;
            for (int k = 0; k < count; k++) {
                limbs[k] = other.limbs[k];
            }
            used = count;
        }

        void read(Row row) {
            long held = 0;
            int heldBits = 0;
            int count = 0;
            for (int k = row.length - 1; k >= 0; k--) {
                held |= (long) row.at(k) << heldBits;
                heldBits += 8;
                if (heldBits >= LIMB_BITS && count < ROOM - 1) {
                    limbs[count] = held & LIMB_MASK;
                    count++;
                    held >>= LIMB_BITS;
                    heldBits -= LIMB_BITS;
                }
            }
            limbs[count] = held;
            trim(count + 1);
        }

        void write(Row row, int count) {
            row.length = 0;
            for (int k = count - 1; k >= 0; k--) {
                int limb = 8 * k / LIMB_BITS;
                int shift = 8 * k % LIMB_BITS;
                long value = limbAt(limb) >> shift | limbAt(limb + 1) << (LIMB_BITS - shift);
                row.add((int) (value & 255));
            }
        }

        void addSmall(int value) {
            long carry = value;
            int count = used;
            for (int k = 0; k < count && carry != 0; k++) {
                long sum = limbs[k] + carry;
                limbs[k] = sum & LIMB_MASK;
                carry = sum >> LIMB_BITS;
            }
            if (carry != 0 && count < ROOM) {
                limbs[count] = carry;
                used = count + 1;
            }
        }

        void setSum(Whole a, Whole b) {
            int count = a.used > b.used ? a.used : b.used;
            long carry = 0;
            for (int k = 0; k < count; k++) {
                long sum = a.limbAt(k) + b.limbAt(k) + carry;
                limbs[k] = sum & LIMB_MASK;
                carry = sum >> LIMB_BITS;
            }
            if (count < ROOM) {
                limbs[count] = carry;
            }
            trim(count + 1);
        }

        /** The first is not below the second. */
        void setDifference(Whole a, Whole b) {
            int count = a.used;
            long carry = 0;
            for (int k = 0; k < count; k++) {
                long rest = a.limbAt(k) - b.limbAt(k) + carry;
                limbs[k] = rest & LIMB_MASK;
                carry = rest >> LIMB_BITS;
            }
            trim(count);
        }

        /** One less than a number above 0. */
        void setLess(Whole a) {
            int count = a.used;
            long carry = -1;
            for (int k = 0; k < count; k++) {
                long rest = a.limbAt(k) + carry;
                limbs[k] = rest & LIMB_MASK;
                carry = rest >> LIMB_BITS;
            }
            trim(count);
        }

        /** Neither factor is this number; their limbs together are not more than the room. */
        void setProduct(Whole a, Whole b) {
            int count = a.used + b.used;
            used = 0;
            if (a.used == 0 || b.used == 0 || count > ROOM) {
                return;
            }
            long[] x = a.limbs;
            long[] y = b.limbs;
            long sum = 0;
            for (int k = 0; k < count - 1; k++) {
                int from = k < b.used ? 0 : k - b.used + 1;
                int to = k < a.used ? k : a.used - 1;
                for (int i = from; i <= to; i++) {
                    sum += x[i] * y[k - i];
                }
                limbs[k] = sum & LIMB_MASK;
                sum >>= LIMB_BITS;
            }
            limbs[count - 1] = sum;
            trim(count);
        }

        /** As the product of a number with itself, in half the steps: most limbs meet twice. */
        void setSquare(Whole a) {
            int count = 2 * a.used;
            used = 0;
            if (count == 0 || count > ROOM) {
                return;
            }
            long[] x = a.limbs;
            long carry = 0;
            for (int k = 0; k < count - 1; k++) {
                int from = k < a.used ? 0 : k - a.used + 1;
                long sum = 0;
                for (int i = from; i < k - i; i++) {
                    sum += x[i] * x[k - i];
                }
                sum += sum + carry;
                if (k % 2 == 0) {
                    sum += x[k / 2] * x[k / 2];
                }
                limbs[k] = sum & LIMB_MASK;
                carry = sum >> LIMB_BITS;
            }
            limbs[count - 1] = carry;
            trim(count);
        }

        /** By less than a limb. */
        void shiftUp(Whole a, int by) {
            int count = a.used < ROOM ? a.used : ROOM - 1;
            long carry = 0;
            for (int k = 0; k < count; k++) {
                long moved = a.limbs[k] << by | carry;
                limbs[k] = moved & LIMB_MASK;
                carry = moved >> LIMB_BITS;
            }
            limbs[count] = carry;
            used = carry == 0 ? count : count + 1;
        }

        void shiftDown(Whole a, int by) {
            int jump = by / LIMB_BITS;
            int small = by % LIMB_BITS;
            int count = a.used - jump;
            for (int k = 0; k < count; k++) {
                long pair = a.limbAt(k + jump) | a.limbAt(k + jump + 1) << LIMB_BITS;
                limbs[k] = pair >> small & LIMB_MASK;
            }
            trim(count);
        }

        /** What is left by a divisor of at most 28 bits. */
        long restBySmall(int divisor) {
            long rest = 0;
            for (int k = used - 1; k >= 0 && divisor > 0; k--) {
                rest = (rest << LIMB_BITS | limbAt(k)) % divisor;
            }
            return rest;
        }

        int zeroBits() {
            int count = bitLength();
            for (int k = 0; k < count; k++) {
                if (hasBit(k)) {
                    return k;
                }
            }
            return 0;
        }
    }

    /** Where numbers are divided, raised and looked at, with the numbers that this needs on the way. */
    private static final class Desk {
        private static final int[] BASES = {2, 3, 5, 7, 11, 13, 17, 19, 23, 29, 31, 37};
        /** Two numbers of 2,048 bits are through after at most 2,954 divisions. */
        private static final int MOST_DIVISIONS = 4096;

        /** What the last division answered. */
        final Whole quotient = new Whole();
        /** The divisor moved up so that its highest limb is full, and by how many bits. */
        private final Whole divisor = new Whole();
        private int lift = 0;
        private final Whole dividend = new Whole();
        private final Whole factor = new Whole();
        private final Whole powerA = new Whole();
        private final Whole powerB = new Whole();
        private final Whole euclidA = new Whole();
        private final Whole euclidB = new Whole();
        private final Whole euclidC = new Whole();
        private final Whole timesA = new Whole();
        private final Whole timesB = new Whole();
        private final Whole timesC = new Whole();
        private final Whole less = new Whole();
        private final Whole odd = new Whole();
        private final Whole base = new Whole();
        private final Whole witness = new Whole();

        /** False, if the product has more than 2,048 bits for sure; one more may still come. */
        boolean multiply(Whole a, Whole b, Whole product) {
            if (a.bitLength() + b.bitLength() > Whole.MOST_BITS + 1) {
                return false;
            }
            product.setProduct(a, b);
            return true;
        }

        /** The second is not 0. The rest may be one of the two. */
        void divide(Whole a, Whole b, Whole rest) {
            setDivisor(b);
            dividend.shiftUp(a, lift);
            reduce(dividend);
            rest.shiftDown(dividend, lift);
        }

        private void setDivisor(Whole b) {
            lift = Whole.LIMB_BITS - Whole.widthOf(b.limbAt(b.used - 1));
            divisor.shiftUp(b, lift);
        }

        /** Leaves of a number what is left by the divisor: long division (Knuth's algorithm D). */
        private void reduce(Whole number) {
            int top = number.used - divisor.used;
            quotient.used = 0;
            if (divisor.used == 0 || top < 0 || number.used >= Whole.ROOM) {
                return;
            }
            number.limbs[number.used] = 0;
            for (int k = top; k >= 0; k--) {
                long digit = guessDigit(number, k);
                if (digit != 0 && takeAway(number, digit, k)) {
                    digit--;
                    putBack(number, k);
                }
                quotient.limbs[k] = digit;
            }
            quotient.trim(top + 1);
            number.trim(divisor.used);
        }

        /** The digit of the quotient that is due at a place, or one more. */
        private long guessDigit(Whole number, int place) {
            int count = divisor.used;
            int above = place + count;
            long[] from = number.limbs;
            long[] by = divisor.limbs;
            if (count < 1 || place < 0 || above >= from.length || by[count - 1] == 0) {
                return 0;
            }
            long high = by[count - 1];
            long low = count > 1 ? by[count - 2] : 0;
            long pair = from[above] << Whole.LIMB_BITS | from[above - 1];
            long digit = pair / high;
            if (digit > Whole.LIMB_MASK) {
                digit = Whole.LIMB_MASK;
            }
            long left = pair - digit * high;
            long under = count > 1 ? from[above - 2] : 0;
            // With a full highest limb the guess is at most two too high.
            for (int k = 0; k < 2 && left <= Whole.LIMB_MASK; k++) {
                if (digit * low <= (left << Whole.LIMB_BITS | under)) {
                    return digit;
                }
                digit--;
                left += high;
            }
            return digit;
        }

        /** Takes so many divisors away at a place: whether that was one too many. */
        private boolean takeAway(Whole number, long digit, int place) {
            int count = divisor.used;
            long[] from = number.limbs;
            long[] by = divisor.limbs;
            if (place < 0 || place + count >= from.length) {
                return false;
            }
            long carry = 0;
            for (int k = 0; k < count; k++) {
                long rest = from[place + k] - digit * by[k] + carry;
                from[place + k] = rest & Whole.LIMB_MASK;
                carry = rest >> Whole.LIMB_BITS;
            }
            long rest = from[place + count] + carry;
            from[place + count] = rest & Whole.LIMB_MASK;
            return rest < 0;
        }

        private void putBack(Whole number, int place) {
            int count = divisor.used;
            long[] to = number.limbs;
            if (place < 0 || place + count >= to.length) {
                return;
            }
            long carry = 0;
            for (int k = 0; k < count; k++) {
                long sum = to[place + k] + divisor.limbs[k] + carry;
                to[place + k] = sum & Whole.LIMB_MASK;
                carry = sum >> Whole.LIMB_BITS;
            }
            to[place + count] = (to[place + count] + carry) & Whole.LIMB_MASK;
        }

        void findDivisor(Whole a, Whole b, Whole found) {
            euclidA.set(a);
            euclidB.set(b);
            for (int k = 0; k < MOST_DIVISIONS && !euclidB.isZero(); k++) {
                divide(euclidA, euclidB, euclidC);
                euclidA.set(euclidB);
                euclidB.set(euclidC);
            }
            found.set(euclidA);
        }

        /** False, if the least common multiple is too long. */
        boolean findMultiple(Whole a, Whole b, Whole found) {
            if (a.isZero() || b.isZero()) {
                found.setSmall(0);
                return true;
            }
            findDivisor(a, b, euclidC);
            divide(a, euclidC, euclidC);
            euclidC.set(quotient);
            return multiply(euclidC, b, found);
        }

        /**
         * The inverse of a by b, which is not 0; false, if there is none. How often a goes into each
         * rest of Euclid's divisions has another sign each time, so only its size is kept.
         */
        boolean invert(Whole a, Whole b, Whole inverse) {
            euclidA.set(b);
            divide(a, b, euclidB);
            timesA.setSmall(0);
            timesB.setSmall(1);
            boolean negative = true;
            for (int k = 0; k < MOST_DIVISIONS && !euclidB.isZero(); k++) {
                divide(euclidA, euclidB, euclidC);
                euclidA.set(euclidB);
                euclidB.set(euclidC);
                timesC.setProduct(quotient, timesB);
                timesC.setSum(timesC, timesA);
                timesA.set(timesB);
                timesB.set(timesC);
                negative = !negative;
            }
            if (!euclidA.isSmall(1)) {
                return false;
            }
            if (negative && !timesA.isZero()) {
                inverse.setDifference(b, timesA);
            } else {
                inverse.set(timesA);
            }
            return true;
        }

        /**
         * The modulus is not 0 and has at most 128 bytes. On the way the rests by the divisor, which
         * is the modulus moved up, will do: only the last one must be moved for its own sake.
         */
        void power(Whole number, Whole exponent, Whole modulus, Whole found) {
            setDivisor(modulus);
            factor.set(number);
            reduce(factor);
            Whole now = powerA;
            Whole other = powerB;
            now.setSmall(1);
            for (int k = exponent.bitLength() - 1; k >= 0; k--) {
                other.setSquare(now);
                reduce(other);
                if (exponent.hasBit(k)) {
                    now.setProduct(other, factor);
                    reduce(now);
                } else {
                    Whole old = now;
                    now = other;
                    other = old;
                }
            }
            now.shiftUp(now, lift);
            reduce(now);
            found.shiftDown(now, lift);
        }

        boolean isProbable(Whole number) {
            if (number.used <= 1 && number.limbAt(0) <= 37) {
                return isBase(number.limbAt(0));
            }
            if (number.byteLength() > MOST_CANDIDATE || hasBaseAsDivisor(number)) {
                return false;
            }
            less.setLess(number);
            int twos = less.zeroBits();
            odd.shiftDown(less, twos);
            for (int k = 0; k < BASES.length; k++) {
                base.setSmall(BASES[k]);
                if (!isWitnessed(number, twos)) {
                    return false;
                }
            }
            return true;
        }

        private static boolean isBase(long value) {
            for (int k = 0; k < BASES.length; k++) {
                if (BASES[k] == value) {
                    return true;
                }
            }
            return false;
        }

        /**
         * A base that divides a number above 37 can't witness for it: no power of it leaves 1 or the
         * number less 1. A greater divisor would prove less than the document asks.
         */
        private static boolean hasBaseAsDivisor(Whole number) {
            for (int k = 0; k < BASES.length; k++) {
                if (number.restBySmall(BASES[k]) == 0) {
                    return true;
                }
            }
            return false;
        }

        /** Whether base, to the power odd and squared on, looks as if the number were a prime. */
        private boolean isWitnessed(Whole number, int twos) {
            power(base, odd, number, witness);
            if (witness.isSmall(1)) {
                return true;
            }
            for (int k = 0; k < twos; k++) {
                if (witness.order(less) == 0) {
                    return true;
                }
                factor.setSquare(witness);
                divide(factor, number, witness);
            }
            return false;
        }
    }

    /** SHA-256 and SHA-224 as in FIPS 180-4, and the masks made of them. */
    private static final class Digester {
        private static final int BLOCK = 64;
        private static final int[] START_256 = {
            0x6a09e667, 0xbb67ae85, 0x3c6ef372, 0xa54ff53a, 0x510e527f, 0x9b05688c, 0x1f83d9ab, 0x5be0cd19
        };
        private static final int[] START_224 = {
            0xc1059ed8, 0x367cd507, 0x3070dd17, 0xf70e5939, 0xffc00b31, 0x68581511, 0x64f98fa7, 0xbefa4fa4
        };
        private static final int[] ROUNDS = {
            0x428a2f98, 0x71374491, 0xb5c0fbcf, 0xe9b5dba5, 0x3956c25b, 0x59f111f1, 0x923f82a4, 0xab1c5ed5,
            0xd807aa98, 0x12835b01, 0x243185be, 0x550c7dc3, 0x72be5d74, 0x80deb1fe, 0x9bdc06a7, 0xc19bf174,
            0xe49b69c1, 0xefbe4786, 0x0fc19dc6, 0x240ca1cc, 0x2de92c6f, 0x4a7484aa, 0x5cb0a9dc, 0x76f988da,
            0x983e5152, 0xa831c66d, 0xb00327c8, 0xbf597fc7, 0xc6e00bf3, 0xd5a79147, 0x06ca6351, 0x14292967,
            0x27b70a85, 0x2e1b2138, 0x4d2c6dfc, 0x53380d13, 0x650a7354, 0x766a0abb, 0x81c2c92e, 0x92722c85,
            0xa2bfe8a1, 0xa81a664b, 0xc24b8b70, 0xc76c51a3, 0xd192e819, 0xd6990624, 0xf40e3585, 0x106aa070,
            0x19a4c116, 0x1e376c08, 0x2748774c, 0x34b0bcb5, 0x391c0cb3, 0x4ed8aa4a, 0x5b9cca4f, 0x682e6ff3,
            0x748f82ee, 0x78a5636f, 0x84c87814, 0x8cc70208, 0x90befffa, 0xa4506ceb, 0xbef9a3f7, 0xc67178f2
        };

        private final int[] words = new int[BLOCK];
        private final int[] state = new int[8];
        private final int[] mixed = new int[8];
        private final Row counted = new Row(ROW_ROOM + 4);
        private final Row piece = new Row(32);

        static int lengthOf(int hash) {
            return hash == 0 ? 32 : 28;
        }

        void addDigest(int hash, Row from, Row to) {
            int blocks = (from.length + 8) / BLOCK + 1;
            for (int k = 0; k < 8; k++) {
                state[k] = hash == 0 ? START_256[k] : START_224[k];
            }
            for (int k = 0; k < blocks; k++) {
                spreadBlock(from, k * BLOCK, k == blocks - 1);
                mixBlock();
            }
            for (int k = 0; k < lengthOf(hash); k++) {
                to.add(state[k / 4] >> (24 - k % 4 * 8));
            }
        }

        void setMask(int hash, Row from, int n, Row to) {
            int h = lengthOf(hash);
            int number = 0;
            to.length = 0;
            for (int done = 0; done < n; done += h) {
                counted.take(from);
                counted.addWord(number);
                number++;
                piece.length = 0;
                addDigest(hash, counted, piece);
                to.addPart(piece, 0, n - done < h ? n - done : h);
            }
        }

        private void spreadBlock(Row from, int start, boolean last) {
            for (int k = 0; k < 16; k++) {
                int place = start + 4 * k;
                words[k] = padded(from, place) << 24 | padded(from, place + 1) << 16
                        | padded(from, place + 2) << 8 | padded(from, place + 3);
            }
            if (last) {
                words[15] = from.length * 8;
            }
            for (int k = 16; k < BLOCK; k++) {
                int near = words[k - 2];
                int far = words[k - 15];
                int spread = turned(near, 17) ^ turned(near, 19) ^ near >>> 10;
                int lift = turned(far, 7) ^ turned(far, 18) ^ far >>> 3;
                words[k] = spread + words[k - 7] + lift + words[k - 16];
            }
        }

        private static int padded(Row from, int place) {
            return place == from.length ? 128 : from.at(place);
        }

        private static int turned(int word, int by) {
            return word >>> by | word << (32 - by);
        }

        private void mixBlock() {
            for (int k = 0; k < 8; k++) {
                mixed[k] = state[k];
            }
            for (int k = 0; k < BLOCK; k++) {
                mixWord(ROUNDS[k] + words[k]);
            }
            for (int k = 0; k < 8; k++) {
                state[k] += mixed[k];
            }
        }

        private void mixWord(int word) {
            int a = mixed[0];
            int e = mixed[4];
            int chosen = e & mixed[5] ^ ~e & mixed[6];
            int most = a & mixed[1] ^ a & mixed[2] ^ mixed[1] & mixed[2];
            int one = mixed[7] + (turned(e, 6) ^ turned(e, 11) ^ turned(e, 25)) + chosen + word;
            int two = (turned(a, 2) ^ turned(a, 13) ^ turned(a, 22)) + most;
            for (int k = 7; k > 0; k--) {
                mixed[k] = mixed[k - 1];
            }
            mixed[4] += one;
            mixed[0] = one + two;
        }
    }

    /** The parts of a key; an open one has only the first two. */
    private static final class Key {
        static final int N = 0;
        static final int E = 1;
        static final int D = 2;
        static final int P = 3;
        static final int Q = 4;
        static final int DP = 5;
        static final int DQ = 6;
        static final int QI = 7;
        static final int OPEN_PARTS = 2;
        static final int ALL_PARTS = 8;

        private final Whole[] parts;
        /** K, the length of n in bytes. */
        final int length;

        Key(int count, Whole n, Whole e) {
            parts = new Whole[count == OPEN_PARTS ? OPEN_PARTS : ALL_PARTS];
            for (int k = 0; k < parts.length; k++) {
                parts[k] = new Whole();
            }
            parts[N].set(n);
            parts[E].set(e);
            length = n.byteLength();
        }

        boolean isOpen() {
            return parts.length < ALL_PARTS;
        }

        boolean has(int what) {
            return what >= 0 && what < parts.length;
        }

        /** Of an open key, what it has not is told as n; no call asks for that. */
        Whole at(int what) {
            return has(what) ? parts[what] : parts[N];
        }
    }

    /** The rows that are raised or lowered, as in RFC 8017: put together, and taken apart again. */
    private static final class Padder {
        private static final int[] NAME_256 = {48, 49, 48, 13, 6, 9, 96, 134, 72, 1, 101, 3, 4, 2, 1, 5, 0, 4, 32};
        private static final int[] NAME_224 = {48, 45, 48, 13, 6, 9, 96, 134, 72, 1, 101, 3, 4, 2, 4, 5, 0, 4, 28};
        private static final int NAME_LENGTH = 19;
        private static final int LEAST_FILLING = 8;
        private static final int LAST_SALTED = 188;

        private final Digester digester;
        private final Row data = new Row(ROW_ROOM);
        private final Row mask = new Row(ROW_ROOM);
        private final Row seed = new Row(ROW_ROOM);
        private final Row proof = new Row(32);
        private final Row salted = new Row(8 + 32 + ROW_ROOM);

        Padder(Digester digester) {
            this.digester = digester;
        }

        static int leastSigned(int hash) {
            return NAME_LENGTH + Digester.lengthOf(hash) + 11;
        }

        static int bytesOf(int bitCount) {
            return (bitCount + 7) / 8;
        }

        /** The message fits and the seed has the digest's length. */
        void hideIn(Row to, int length, int hash, Row message, Row label, Row seedRow) {
            int h = Digester.lengthOf(hash);
            data.length = 0;
            digester.addDigest(hash, label, data);
            data.addTimes(0, length - 2 * h - 2 - message.length);
            data.add(1);
            data.addRow(message);
            digester.setMask(hash, seedRow, data.length, mask);
            data.mixWith(mask);
            digester.setMask(hash, data, h, mask);
            mask.mixWith(seedRow);
            to.length = 0;
            to.add(0);
            to.addRow(mask);
            to.addRow(data);
        }

        /** The row is long enough for two digests, a 0 and a 1. */
        boolean showFrom(Row from, int hash, Row label, Row message) {
            int h = Digester.lengthOf(hash);
            seed.takePart(from, 1, h);
            data.takePart(from, 1 + h, from.length - h - 1);
            digester.setMask(hash, data, h, mask);
            seed.mixWith(mask);
            digester.setMask(hash, seed, data.length, mask);
            data.mixWith(mask);
            proof.length = 0;
            digester.addDigest(hash, label, proof);
            int one = h + data.zerosFrom(h);
            if (from.at(0) != 0 || !data.holds(proof, 0) || data.at(one) != 1) {
                return false;
            }
            message.takePart(data, one + 1, data.length - one - 1);
            return true;
        }

        void fillIn(Row to, Row message, Row filling) {
            to.length = 0;
            to.add(0);
            to.add(2);
            to.addRow(filling);
            to.add(0);
            to.addRow(message);
        }

        boolean emptyFrom(Row from, Row message) {
            int filled = from.othersFrom(2);
            int end = 2 + filled;
            if (from.at(0) != 0 || from.at(1) != 2 || filled < LEAST_FILLING || !from.has(end)) {
                return false;
            }
            message.takePart(from, end + 1, from.length - end - 1);
            return true;
        }

        /** The length is not below the least for this hash. */
        void signIn(Row to, int length, int hash, Row message) {
            to.length = 0;
            to.add(0);
            to.add(1);
            to.addTimes(255, length - 3 - NAME_LENGTH - Digester.lengthOf(hash));
            to.add(0);
            for (int k = 0; k < NAME_LENGTH; k++) {
                to.add(hash == 0 ? NAME_256[k] : NAME_224[k]);
            }
            digester.addDigest(hash, message, to);
        }

        /** The bits are one less than those of n; digest, salt and two bytes more have room in them. */
        void saltIn(Row to, int room, int hash, Row message, Row salt) {
            int length = bytesOf(room) - Digester.lengthOf(hash) - 1;
            setProof(hash, message, salt);
            data.length = 0;
            data.addTimes(0, length - 1 - salt.length);
            data.add(1);
            data.addRow(salt);
            digester.setMask(hash, proof, length, mask);
            data.mixWith(mask);
            data.put(0, data.at(0) & highestKept(room));
            to.length = 0;
            to.addRow(data);
            to.addRow(proof);
            to.add(LAST_SALTED);
        }

        /** The same room is there for a salt of x bytes. */
        boolean tasteFrom(Row from, int room, int hash, Row message, int x) {
            int h = Digester.lengthOf(hash);
            int ahead = from.length - bytesOf(room);
            int length = bytesOf(room) - h - 1;
            if (ahead > 0 && from.at(0) != 0 || from.at(from.length - 1) != LAST_SALTED) {
                return false;
            }
            data.takePart(from, ahead, length);
            seed.takePart(from, ahead + length, h);
            if ((data.at(0) & ~highestKept(room)) != 0) {
                return false;
            }
            digester.setMask(hash, seed, length, mask);
            data.mixWith(mask);
            data.put(0, data.at(0) & highestKept(room));
            int one = length - x - 1;
            if (data.zerosFrom(0) != one || data.at(one) != 1) {
                return false;
            }
            mask.takePart(data, one + 1, x);
            setProof(hash, message, mask);
            return seed.holds(proof, 0);
        }

        /** The bits of the highest byte that the room still holds. */
        private static int highestKept(int room) {
            return 255 >> (8 * bytesOf(room) - room);
        }

        private void setProof(int hash, Row message, Row salt) {
            salted.length = 0;
            salted.addTimes(0, 8);
            digester.addDigest(hash, message, salted);
            salted.addRow(salt);
            proof.length = 0;
            digester.addDigest(hash, salted, proof);
        }
    }
}
