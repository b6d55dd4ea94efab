/**
 * A marshaller by told schemas: rows of numbers and boxes, packed onto a wire of bytes and read
 * back by other versions of the schema. The document DOC.md says what each call answers.
 *
 * <p>Every number is held as its VALUE, a long: floats and doubles by their bits, which are worked
 * out with whole numbers, so that nothing here can round twice or meet a NaN.
 */
public final class RowMarshal {
    public static final int NONE = -1, BAD = -2, STATE = -3, FULL = -4;
    public static final long NO = Long.MIN_VALUE;

    private static final int SLOTS = 8, VERSIONS = 6, FIELDS = 8, CELLS = 16;
    private static final int TAPE_ROOM = 160, WIRE_ROOM = 500, LONGEST_BODY = 250;
    private static final int BIT = 0, BYTE = 1, SIGN = 2, SHORT = 3, INT = 4, LONG = 5;
    private static final int FLOAT = 6, DOUBLE = 7, BOX = 8, THING = 9;
    private static final int NO_SUCH = -5, NOTHING = -11, KIND = -12, PLACE = -13, SIZE = -14;
    private static final int NEEDED = -15, COUNT = -16, RANGE = -17, GAP = -18;
    private static final int REFUSED = -20, LOST = -21;
    private static final int PLAIN = 0, STEPS = 1, RUNS = 2;
    private static final int NO_DEFAULT = -2000000000;
    private static final int WIDEST = 8;
    private static final int AROUND_BODY = 4;
    private static final int TALLY_BASE = 8, PACKED = 0, TAKEN = 1, GONE = 2;
    private static final int BY_NOTHING = 3, BY_KIND = 4, BY_PLACE = 5, TALLIES = 6;

    private final Row[] slots = new Row[SLOTS];
    private final Version[] versions = new Version[VERSIONS];
    private final int[] tapeBytes = new int[TAPE_ROOM];
    private final int[] wireBytes = new int[WIRE_ROOM];
    private final int[] tallies = new int[TALLIES];
    private final Packer packer = new Packer();
    private final Frame seen = new Frame();
    private final Taker taker = new Taker();
    /** THE STOP's four parts; the first is 0 till there was one. */
    private final int[] lastStop = new int[4];
    private final Image kept = new Image();
    private String spelled = "";
    private int tapeLength = 0;
    private int wireLength = 0;
    private int laxness = 0;
    private int latchKind = BOX;
    private long latchValue = 0;

    public RowMarshal() {
    }

    // ---- slots, cells

    public int make(int slot, int kind, int n) {
        if (!isSlot(slot)) {
            return NONE;
        }
        if (kind < BIT || kind > BOX || n > CELLS) {
            return BAD;
        }
        if (n < 0) {
            return SIZE;
        }
        slots[slot] = new Row(kind, n);
        return 1;
    }

    public int thing(int slot, int what) {
        if (!isSlot(slot)) {
            return NONE;
        }
        if (what != 0 && what != 1) {
            return BAD;
        }
        slots[slot] = what == 1 ? new Row(THING, 0) : null;
        return 1;
    }

    public int same(int slot, int other) {
        if (!isSlot(slot) || !isSlot(other)) {
            return NONE;
        }
        slots[slot] = slots[other];
        return 1;
    }

    public int of(int slot, int what) {
        if (!isSlot(slot) || what < 0 || what > 2) {
            return NONE;
        }
        Row row = slots[slot];
        if (what == 0) {
            return row == null ? NO_SUCH : row.kind;
        }
        if (row == null) {
            return NOTHING;
        }
        if (row.kind == THING) {
            return KIND;
        }
        return what == 1 ? row.size() : holdersOf(row);
    }

    public int read(int slot, int i, int view) {
        if (!isSlot(slot) || view < BIT || view > BOX) {
            return NONE;
        }
        Row row = slots[slot];
        int refusal = Row.refusalToView(row, i, view);
        if (refusal != 0) {
            return refusedBy(refusal);
        }
        latchKind = view == BOX ? row.kinds[i] : view;
        latchValue = Numbers.widened(row.kind, view, row.values[i]);
        return 1;
    }

    public long latch(int what) {
        if (what == 0) {
            return latchKind;
        }
        return what == 1 ? latchValue : NO;
    }

    public int write(int slot, int i, int kind, long v) {
        if (!isSlot(slot) || !Numbers.isNumberKind(kind)) {
            return NONE;
        }
        return enterNumber(slot, i, kind, Numbers.byLong(kind, v));
    }

    public int real(int slot, int i, int kind, int above, int below) {
        if (!isSlot(slot) || (kind != FLOAT && kind != DOUBLE)) {
            return NONE;
        }
        if (below == 0) {
            return BAD;
        }
        return enterNumber(slot, i, kind, Numbers.quotient(kind, above, below));
    }

    public int box(int slot, int i, int kind, long v) {
        if (!isSlot(slot) || kind < BIT || kind > BOX) {
            return NONE;
        }
        Row row = slots[slot];
        int refusal = Row.refusalOfBox(row, i, kind);
        if (refusal != 0) {
            return refusedBy(refusal);
        }
        row.put(i, kind, kind == BOX ? 0 : Numbers.byLong(kind, v));
        return 1;
    }

    public int lax(int v) {
        if (v != 0 && v != 1) {
            return BAD;
        }
        int was = laxness;
        laxness = v;
        return was;
    }

    // ---- versions

    public int feed(int n, int word) {
        if (n < 1 || n > 4) {
            return BAD;
        }
        for (int i = 0; i < n; i++) {
            int one = byteOf(word, i);
            if (one < 1 || one > 127) {
                return BAD;
            }
        }
        if (tapeLength + n > TAPE_ROOM) {
            return FULL;
        }
        for (int i = 0; i < n; i++) {
            tapeBytes[tapeLength + i] = byteOf(word, i);
        }
        tapeLength += n;
        return tapeLength;
    }

    public int define(int version) {
        if (!isVersion(version)) {
            return NONE;
        }
        SchemaText text = new SchemaText(tapeBytes, tapeLength);
        tapeLength = 0;
        Version told = text.understood();
        if (told == null) {
            return -100 - text.fault;
        }
        versions[version] = told;
        return told.length;
    }

    public int drop(int version) {
        int lack = lackOf(version);
        if (lack != 0) {
            return lack;
        }
        versions[version] = null;
        return 1;
    }

    public int field(int version, int k, int what) {
        if (!isVersion(version) || k < 0 || k >= FIELDS || what < 0 || what > 5) {
            return NONE;
        }
        Version told = versions[version];
        if (told == null) {
            return STATE;
        }
        return k < told.length ? told.fields[k].tell(what) : NONE;
    }

    public int spell(int version) {
        int lack = lackOf(version);
        if (lack != 0) {
            return lack;
        }
        spelled = versions[version].asText();
        return spelled.length();
    }

    public int paper(int i) {
        return i >= 0 && i < spelled.length() ? spelled.charAt(i) : NONE;
    }

    // ---- the wire

    public int pack(int version) {
        int lack = lackOf(version);
        if (lack != 0) {
            return lack;
        }
        if (!packer.packs(versions[version], slots)) {
            stopBy(1, packer.atField, packer.atCell, packer.why);
            return REFUSED;
        }
        int length = packer.body.length;
        if (length > LONGEST_BODY || wireLength + length + AROUND_BODY > WIRE_ROOM) {
            return FULL;
        }
        putFrame(version, packer.body);
        tallies[PACKED]++;
        return length + AROUND_BODY;
    }

    public int load(int place, int version) {
        if (!isOnWire(place)) {
            return NONE;
        }
        int lack = lackOf(version);
        if (lack != 0) {
            return lack;
        }
        if (!seen.stands(wireBytes, wireLength, place, versions)) {
            stopBy(3, seen.fault, seen.faultPlace, 0);
            tallies[GONE]++;
            return LOST;
        }
        Version reader = versions[version];
        if (!taker.takes(seen, versions[seen.version], reader, laxness == 1)) {
            stopBy(2, taker.atField, taker.atCell, taker.why);
            return REFUSED;
        }
        for (int k = 0; k < reader.length; k++) {
            slots[reader.fields[k].slot] = taker.rows[k];
        }
        tallies[TAKEN]++;
        return seen.behind;
    }

    public int stop(int what) {
        if (what < 0 || what > 3) {
            return NONE;
        }
        return lastStop[0] == 0 ? STATE : lastStop[what];
    }

    public int wire(int i) {
        if (i == -1) {
            return wireLength;
        }
        return isOnWire(i) ? wireBytes[i] : NONE;
    }

    public int poke(int i, int v) {
        if (!isOnWire(i)) {
            return NONE;
        }
        if (v < 0 || v > 255) {
            return BAD;
        }
        int was = wireBytes[i];
        wireBytes[i] = v;
        return was;
    }

    public int cut(int n) {
        if (n < 0 || n > wireLength) {
            return BAD;
        }
        int going = wireLength - n;
        wireLength = n;
        return going;
    }

    public int frame(int place, int what) {
        if (!isOnWire(place) || what < 0 || what > 6) {
            return NONE;
        }
        boolean whole = seen.stands(wireBytes, wireLength, place, versions);
        if (what == 0) {
            return seen.fault;
        }
        if ((what == 1) == whole) {
            return NO_SUCH;
        }
        return seen.tell(what);
    }

    // ---- in thought

    public int bytes(int version) {
        int lack = lackOf(version);
        return lack != 0 ? lack : frameSize(versions[version]);
    }

    public int mode(int version, int k, int what) {
        if (!isVersion(version) || k < 0 || k >= FIELDS || what < 0 || what > 3) {
            return NONE;
        }
        Version told = versions[version];
        if (told == null) {
            return STATE;
        }
        if (k >= told.length) {
            return NONE;
        }
        Field of = told.fields[k];
        Row row = slots[of.slot];
        if (of.kind == BOX || row == null || (row.kind != THING && row.size() == 0)) {
            return NO_SUCH;
        }
        if (!packer.gathers(of, row)) {
            return packer.why;
        }
        packer.plan.choose(packer.cells, row.size());
        return packer.plan.tell(what);
    }

    public int smallest() {
        int best = NO_SUCH;
        int fewest = 0;
        for (int v = 0; v < VERSIONS; v++) {
            int size = versions[v] == null ? NONE : frameSize(versions[v]);
            if (size > 0 && (best == NO_SUCH || size < fewest)) {
                best = v;
                fewest = size;
            }
        }
        return best;
    }

    public int scan(int what) {
        if (what < 0 || what > 2) {
            return NONE;
        }
        int frames = 0;
        int place = 0;
        int fault = 0;
        // a FRAME has five bytes or more, so that fewer than WIRE_ROOM of them can follow
        for (int turn = 0; turn < WIRE_ROOM && place < wireLength && fault == 0; turn++) {
            if (seen.stands(wireBytes, wireLength, place, versions)) {
                frames++;
                place = seen.behind;
            } else {
                fault = seen.fault;
            }
        }
        if (what == 0) {
            return frames;
        }
        return what == 1 ? place : fault;
    }

    public int found(int place) {
        if (!isOnWire(place)) {
            return NONE;
        }
        for (int at = place; at < wireLength; at++) {
            if (seen.stands(wireBytes, wireLength, at, versions)) {
                return at;
            }
        }
        return NO_SUCH;
    }

    public int fit(int writer, int reader, int k) {
        if (!isVersion(writer) || !isVersion(reader) || k < 0 || k >= FIELDS) {
            return NONE;
        }
        Version from = versions[writer];
        Version to = versions[reader];
        if (from == null || to == null) {
            return STATE;
        }
        if (k >= to.length) {
            return NONE;
        }
        Field wanted = to.fields[k];
        int at = from.placeOf(wanted.slot);
        return at < 0 ? wanted.fitOfNone() : wanted.fitOf(from.fields[at]);
    }

    public int trip(int writer, int reader) {
        if (!isVersion(writer) || !isVersion(reader)) {
            return NONE;
        }
        Version from = versions[writer];
        Version to = versions[reader];
        if (from == null || to == null) {
            return STATE;
        }
        if (!packer.packs(from, slots)) {
            return REFUSED;
        }
        Body body = packer.body;
        // the READER is asked before the length: the document names REFUSED ahead of FULL
        if (!seen.reads(from, body.bytes, 0, body.length)
                || !taker.takes(seen, from, to, laxness == 1)) {
            return REFUSED;
        }
        return body.length > LONGEST_BODY ? FULL : cellsKept(to);
    }

    public int alike(int slot, int other) {
        if (!isSlot(slot) || !isSlot(other)) {
            return NONE;
        }
        Row one = slots[slot];
        Row two = slots[other];
        if (one == null || two == null) {
            return NOTHING;
        }
        if (one.kind == THING || two.kind == THING) {
            return KIND;
        }
        int shorter = Math.min(one.size(), two.size());
        for (int i = 0; i < shorter; i++) {
            if (!one.agrees(two, i)) {
                return i;
            }
        }
        return one.size() == two.size() ? NO_SUCH : shorter;
    }

    public long digest(int slot) {
        if (slot != -1) {
            return isSlot(slot) ? digestOf(slots[slot]) : NO;
        }
        long z = 7;
        for (int s = 0; s < SLOTS; s++) {
            z = 31 * z + digestOf(slots[s]);
        }
        return z;
    }

    public int image() {
        copyRows(slots, kept.slots);
        copyVersions(versions, kept.versions);
        System.arraycopy(wireBytes, 0, kept.wireBytes, 0, wireLength);
        kept.wireLength = wireLength;
        kept.laxness = laxness;
        kept.taken = true;
        return unlikeRows();
    }

    public int back() {
        if (!kept.taken) {
            return STATE;
        }
        copyRows(kept.slots, slots);
        copyVersions(kept.versions, versions);
        System.arraycopy(kept.wireBytes, 0, wireBytes, 0, kept.wireLength);
        wireLength = kept.wireLength;
        laxness = kept.laxness;
        return unlikeRows();
    }

    public int count(int what) {
        switch (what) {
            case 0:
                return slotsWith(false);
            case 1:
                return slotsWith(true);
            case 2:
                return unlikeRows();
            case 3:
                return cellsOfUnlikeRows();
            case 4:
                return versionsThere();
            case 5:
                return tapeLength;
            case 6:
                return wireLength;
            case 7:
                return spelled.length();
            default:
                int tally = what - TALLY_BASE;
                return what >= TALLY_BASE && tally < TALLIES ? tallies[tally] : NONE;
        }
    }

    private static boolean isSlot(int slot) {
        return slot >= 0 && slot < SLOTS;
    }

    private static boolean isVersion(int version) {
        return version >= 0 && version < VERSIONS;
    }

    private boolean isOnWire(int place) {
        return place >= 0 && place < wireLength;
    }

    private static int byteOf(int word, int i) {
        return (word >>> (8 * i)) & 255;
    }

    /** What a call that needs a VERSION answers without it; 0: it is there. */
    private int lackOf(int version) {
        if (!isVersion(version)) {
            return NONE;
        }
        return versions[version] == null ? STATE : 0;
    }

    private int enterNumber(int slot, int i, int kind, long value) {
        Row row = slots[slot];
        int refusal = Row.refusalOfNumber(row, i, kind);
        if (refusal != 0) {
            return refusedBy(refusal);
        }
        row.put(i, kind, value);
        return 1;
    }

    private int refusedBy(int refusal) {
        if (refusal == NOTHING) {
            tallies[BY_NOTHING]++;
        } else if (refusal == KIND) {
            tallies[BY_KIND]++;
        } else {
            tallies[BY_PLACE]++;
        }
        return refusal;
    }

    private void stopBy(int call, int first, int second, int why) {
        lastStop[0] = call;
        lastStop[1] = first;
        lastStop[2] = second;
        lastStop[3] = why;
    }

    private void putFrame(int version, Body body) {
        int begin = wireLength;
        wireBytes[begin] = version;
        wireBytes[begin + 1] = body.length;
        System.arraycopy(body.bytes, 0, wireBytes, begin + 2, body.length);
        int end = begin + 2 + body.length;
        int sum = Frame.sumOf(wireBytes, begin, end);
        wireBytes[end] = sum >> 8;
        wireBytes[end + 1] = sum & 255;
        wireLength = end + 2;
    }

    /** BYTES by a VERSION, or why there are none (below 0). */
    private int frameSize(Version told) {
        if (!packer.packs(told, slots)) {
            return REFUSED;
        }
        int length = packer.body.length;
        return length > LONGEST_BODY ? FULL : length + AROUND_BODY;
    }

    /** How many CELLS stay ALIKE, if the READER's SLOTS come to hold what the taker has. */
    private int cellsKept(Version reader) {
        int kept = 0;
        for (int s = 0; s < SLOTS; s++) {
            int k = reader.placeOf(s);
            Row now = slots[s];
            Row then = k < 0 ? now : taker.rows[k];
            if (now != null && then != null) {
                kept += now.agreements(then);
            }
        }
        return kept;
    }

    private static long digestOf(Row row) {
        long z = 7;
        if (row == null) {
            return 31 * z + 1;
        }
        if (row.kind == THING) {
            return 31 * z + 2;
        }
        z = 31 * z + 3 + row.kind;
        z = 31 * z + row.size();
        for (int i = 0; i < row.size(); i++) {
            z = 31 * z + row.kinds[i];
            z = 31 * z + row.values[i];
        }
        return z;
    }

    private int holdersOf(Row row) {
        int holders = 0;
        for (int s = 0; s < SLOTS; s++) {
            if (slots[s] == row) {
                holders++;
            }
        }
        return holders;
    }

    private static int firstHolder(Row[] rows, int slot) {
        for (int s = 0; s < slot; s++) {
            if (rows[s] == rows[slot]) {
                return s;
            }
        }
        return slot;
    }

    /** Copies, so that later writes reach one side alone; a ROW held by several stays one ROW. */
    private static void copyRows(Row[] from, Row[] to) {
        for (int s = 0; s < SLOTS; s++) {
            int first = firstHolder(from, s);
            if (first < s) {
                to[s] = to[first];
            } else {
                to[s] = from[s] == null ? null : from[s].twin();
            }
        }
    }

    private static void copyVersions(Version[] from, Version[] to) {
        for (int v = 0; v < VERSIONS; v++) {
            to[v] = from[v];
        }
    }

    private int slotsWith(boolean things) {
        int held = 0;
        for (int s = 0; s < SLOTS; s++) {
            if (slots[s] != null && (slots[s].kind == THING) == things) {
                held++;
            }
        }
        return held;
    }

    private boolean isFirstOfRow(int slot) {
        Row row = slots[slot];
        return row != null && row.kind != THING && firstHolder(slots, slot) == slot;
    }

    private int unlikeRows() {
        int rows = 0;
        for (int s = 0; s < SLOTS; s++) {
            if (isFirstOfRow(s)) {
                rows++;
            }
        }
        return rows;
    }

    private int cellsOfUnlikeRows() {
        int cells = 0;
        for (int s = 0; s < SLOTS; s++) {
            if (isFirstOfRow(s)) {
                cells += slots[s].size();
            }
        }
        return cells;
    }

    private int versionsThere() {
        int there = 0;
        for (int v = 0; v < VERSIONS; v++) {
            if (versions[v] != null) {
                there++;
            }
        }
        return there;
    }

    /** What the KINDS' numbers are, by their VALUES. */
    private static final class Numbers {
        /** Of each number's KIND, a bit for each KIND that it WIDENS to. */
        private static final int[] WIDER = {1, 250, 244, 248, 240, 224, 192, 128};
        private static final int FLOAT_DIGITS = 24, FLOAT_BIAS = 127;
        private static final int DOUBLE_DIGITS = 53, DOUBLE_BIAS = 1023;

        private Numbers() {
        }

        static boolean isNumberKind(int kind) {
            return kind >= BIT && kind <= DOUBLE;
        }

        static boolean isWholeKind(int kind) {
            return kind >= BYTE && kind <= LONG;
        }

        static boolean widens(int from, int to) {
            return isNumberKind(from) && isNumberKind(to) && ((WIDER[from] >> to) & 1) == 1;
        }

        /** The VALUE of the number of a KIND by a long. */
        static long byLong(int kind, long v) {
            switch (kind) {
                case BIT:
                    return v != 0 ? 1 : 0;
                case BYTE:
                    return (byte) v;
                case SIGN:
                    return v & 0xFFFF;
                case SHORT:
                    return (short) v;
                case INT:
                    return (int) v;
                case FLOAT:
                case DOUBLE:
                    return nearest(kind, v);
                default:
                    return v;
            }
        }

        /** The VALUE that a number has by a VIEW of a KIND to which its own WIDENS, or as it is. */
        static long widened(int from, int to, long value) {
            if (from == to || to == BOX || isWholeKind(to)) {
                return value;
            }
            return from == FLOAT ? doubleOfFloat(value) : nearest(to, value);
        }

        /** Whether a number of a KIND has this VALUE. */
        static boolean has(int kind, long value) {
            switch (kind) {
                case BIT:
                    return value == 0 || value == 1;
                case BYTE:
                    return value == (byte) value;
                case SIGN:
                    return value >= 0 && value <= 0xFFFF;
                case SHORT:
                    return value == (short) value;
                case INT:
                    return value == (int) value;
                case FLOAT:
                    return value == (int) value && ((value >> 23) & 255) != 255;
                case DOUBLE:
                    return ((value >> 52) & 2047) != 2047;
                default:
                    return true;
            }
        }

        static int width(long value) {
            if (value == 0) {
                return 0;
            }
            for (int w = 1; w < WIDEST; w++) {
                int unused = 64 - 8 * w;
                if (value << unused >> unused == value) {
                    return w;
                }
            }
            return WIDEST;
        }

        /** The VALUE of above by below, as floats or doubles; below isn't 0. */
        static long quotient(int kind, long above, long below) {
            boolean minus = (above < 0) != (below < 0);
            long one = Math.abs(above);
            long two = Math.abs(below);
            if (kind == FLOAT) {
                one = asFloat(one);
                two = asFloat(two);
            }
            return signed(kind, minus, one == 0 ? 0 : ratio(kind, one, two));
        }

        /** The VALUE of the float or double nearest to a long. */
        private static long nearest(int kind, long v) {
            if (v == 0) {
                return 0;
            }
            // the lowest long has no opposite, but its bits are right as a number without a sign
            long size = v < 0 ? -v : v;
            int top = topBit(size);
            long units = rounded(size, top - digitsOf(kind) + 1);
            return signed(kind, v < 0, composed(kind, units, top));
        }

        private static int digitsOf(int kind) {
            return kind == FLOAT ? FLOAT_DIGITS : DOUBLE_DIGITS;
        }

        private static long signed(int kind, boolean minus, long bits) {
            if (!minus) {
                return bits;
            }
            return kind == FLOAT ? (int) (bits | 1L << 31) : bits | 1L << 63;
        }

        /** The leading 1 is added onto the exponent, so that rounding up may carry into it. */
        private static long composed(int kind, long units, int exponent) {
            if (kind == FLOAT) {
                return ((exponent + FLOAT_BIAS - 1L) << (FLOAT_DIGITS - 1)) + units;
            }
            return ((exponent + DOUBLE_BIAS - 1L) << (DOUBLE_DIGITS - 1)) + units;
        }

        /** The number (0 .. 63) of the highest bit that is set. */
        private static int topBit(long size) {
            for (int bit = 63; bit > 0; bit--) {
                if (size >>> bit != 0) {
                    return bit;
                }
            }
            return 0;
        }

        /** size, rounded half to even, in units of 1 << drop; size is without a sign. */
        private static long rounded(long size, int drop) {
            if (drop <= 0) {
                return size << -drop;
            }
            long units = size >>> drop;
            long rest = size & ((1L << drop) - 1);
            long half = 1L << (drop - 1);
            boolean up = rest > half || (rest == half && (units & 1) == 1);
            return up ? units + 1 : units;
        }

        private static long asFloat(long size) {
            int drop = topBit(size) - FLOAT_DIGITS + 1;
            return drop <= 0 ? size : rounded(size, drop) << drop;
        }

        /** Bits of one / two (both 1 .. 2^31), worked out digit by digit, half to even. */
        private static long ratio(int kind, long one, long two) {
            int exponent = topBit(one) - topBit(two);
            long over = exponent < 0 ? one << -exponent : one;
            long under = exponent > 0 ? two << exponent : two;
            if (over < under) {
                over <<= 1;
                exponent--;
            }
            long units = 0;
            for (int digit = 0; digit < digitsOf(kind); digit++) {
                units <<= 1;
                if (over >= under) {
                    units |= 1;
                    over -= under;
                }
                over <<= 1;
            }
            boolean up = over > under || (over == under && (units & 1) == 1);
            return composed(kind, up ? units + 1 : units, exponent);
        }

        private static long doubleOfFloat(long value) {
            long sign = value < 0 ? 1L << 63 : 0;
            long exponent = (value >> 23) & 255;
            long rest = value & 0x7FFFFF;
            if (exponent != 0) {
                return sign | (exponent - FLOAT_BIAS + DOUBLE_BIAS) << 52 | rest << 29;
            }
            if (rest == 0) {
                return sign;
            }
            // a subnormal float, rest times 2^-149, is a normal double
            int top = topBit(rest);
            return sign | composed(DOUBLE, rest << (52 - top), top - 149);
        }
    }

    /** A ROW; or a THING, as one of the kind THING without CELLS. */
    private static final class Row {
        final int kind;
        /** A CELL's own KIND: the ROW's, but in a ROW of boxes that of its BOX. */
        final int[] kinds;
        final long[] values;

        Row(int kind, int size) {
            int cells = Math.max(0, Math.min(size, CELLS));
            this.kind = kind;
            this.kinds = new int[cells];
            this.values = new long[cells];
            for (int i = 0; i < cells; i++) {
                this.kinds[i] = kind;
            }
        }

        int size() {
            return values.length;
        }

        Row twin() {
            Row twin = new Row(kind, size());
            System.arraycopy(kinds, 0, twin.kinds, 0, size());
            System.arraycopy(values, 0, twin.values, 0, size());
            return twin;
        }

        /** Why a CELL can't be READ by a VIEW; 0: it can. */
        static int refusalToView(Row row, int i, int view) {
            if (row == null) {
                return NOTHING;
            }
            if (row.kind == THING || (row.kind == BOX && view != BOX)) {
                return KIND;
            }
            if (i < 0 || i >= row.size()) {
                return PLACE;
            }
            return view == BOX || Numbers.widens(row.kind, view) ? 0 : KIND;
        }

        /** Why a number of a KIND can't be WRITTEN; 0: it can. */
        static int refusalOfNumber(Row row, int i, int kind) {
            if (row != null && row.kind == BOX) {
                return KIND;
            }
            return refusalOfBox(row, i, kind);
        }

        /** Why a BOX of a KIND can't be BOXED; 0: it can. */
        static int refusalOfBox(Row row, int i, int kind) {
            if (row == null) {
                return NOTHING;
            }
            if (row.kind == THING || (row.kind != BOX && kind == BOX)) {
                return KIND;
            }
            if (i < 0 || i >= row.size()) {
                return PLACE;
            }
            return row.kind == BOX || Numbers.widens(kind, row.kind) ? 0 : KIND;
        }

        /** Puts what is not refused. */
        void put(int i, int ofKind, long value) {
            if (kind == BOX) {
                kinds[i] = ofKind;
                values[i] = value;
            } else {
                values[i] = Numbers.widened(ofKind, kind, value);
            }
        }

        /** Whether CELL i, which both have, is ALIKE. */
        boolean agrees(Row other, int i) {
            int one = kinds[i];
            int two = other.kinds[i];
            if (one == BOX || two == BOX || one == BIT || two == BIT) {
                return one == two && values[i] == other.values[i];
            }
            if (Numbers.isWholeKind(one) && Numbers.isWholeKind(two)) {
                return values[i] == other.values[i];
            }
            long here = Numbers.widened(one, DOUBLE, values[i]);
            long there = Numbers.widened(two, DOUBLE, other.values[i]);
            // shifted, the sign is gone: both noughts are alike
            return here == there || (here << 1 == 0 && there << 1 == 0);
        }

        int agreements(Row other) {
            int both = Math.min(size(), other.size());
            int agreed = 0;
            for (int i = 0; i < both; i++) {
                if (agrees(other, i)) {
                    agreed++;
                }
            }
            return agreed;
        }
    }

    /** A FIELD of a VERSION. */
    private static final class Field {
        final int slot;
        final int kind;
        /** 0: as many as there are. */
        final int cells;
        final boolean needed;
        final boolean hasDefault;
        final int number;

        Field(int slot, int kind, int cells, boolean needed, boolean hasDefault, int number) {
            this.slot = slot;
            this.kind = kind;
            this.cells = cells;
            this.needed = needed;
            this.hasDefault = hasDefault;
            this.number = number;
        }

        int tell(int what) {
            switch (what) {
                case 0:
                    return slot;
                case 1:
                    return kind;
                case 2:
                    return cells;
                case 3:
                    return needed ? 1 : 0;
                case 4:
                    return hasDefault ? 1 : 0;
                default:
                    return hasDefault ? number : NO_DEFAULT;
            }
        }

        int fitOfNone() {
            if (needed) {
                return 5;
            }
            return hasDefault ? 3 : 4;
        }

        int fitOf(Field writer) {
            boolean numbers = kind != BOX && writer.kind != BOX;
            boolean narrows = numbers && !Numbers.widens(writer.kind, kind);
            boolean whole = Numbers.isWholeKind(kind) && Numbers.isWholeKind(writer.kind);
            boolean otherCount = cells != 0 && writer.cells != 0 && cells != writer.cells;
            if (otherCount || (narrows && !whole)) {
                return 5;
            }
            boolean mayMiscount = cells != 0 && writer.cells == 0;
            boolean mayLack = needed && !writer.needed;
            boolean mayMisfit = writer.kind == BOX && kind != BOX;
            if (mayMiscount || mayLack || mayMisfit || narrows) {
                return 2;
            }
            return kind != writer.kind ? 1 : 0;
        }

        void spellTo(StringBuilder text) {
            text.append((char) ('a' + slot)).append(':').append(Version.word(kind));
            if (cells == 0) {
                text.append("[]");
            } else if (cells > 1) {
                text.append('[').append(cells).append(']');
            }
            if (hasDefault) {
                text.append('=').append(number);
            }
            if (needed) {
                text.append('!');
            }
        }
    }

    /** A VERSION; it never changes, so that THE IMAGE may hold the same one. */
    private static final class Version {
        final Field[] fields;
        final int length;

        Version(Field[] fields, int length) {
            this.fields = fields;
            this.length = length;
        }

        static String word(int kind) {
            switch (kind) {
                case BIT:
                    return "bit";
                case BYTE:
                    return "byte";
                case SIGN:
                    return "sign";
                case SHORT:
                    return "short";
                case INT:
                    return "int";
                case LONG:
                    return "long";
                case FLOAT:
                    return "float";
                case DOUBLE:
                    return "double";
                default:
                    return "box";
            }
        }

        /** The number of the FIELD of a SLOT; -1: it has none. */
        int placeOf(int slot) {
            for (int k = 0; k < length; k++) {
                if (fields[k].slot == slot) {
                    return k;
                }
            }
            return -1;
        }

        String asText() {
            StringBuilder text = new StringBuilder();
            for (int k = 0; k < length; k++) {
                if (k > 0) {
                    text.append(';');
                }
                fields[k].spellTo(text);
            }
            return text.toString();
        }
    }

    /** A text that tells a VERSION, read from its begin on till its FAULT. */
    private static final class SchemaText {
        private final int[] text;
        private final int end;
        private int at = 0;
        private int lettersSeen = 0;
        private boolean hasDefault = false;
        private int number = 0;
        int fault = 0;

        SchemaText(int[] text, int end) {
            this.text = text;
            this.end = end;
        }

        /** The VERSION; null: there is a fault. */
        Version understood() {
            Field[] fields = new Field[FIELDS];
            for (int k = 0; k < FIELDS; k++) {
                fields[k] = nextField();
                if (fields[k] == null) {
                    return null;
                }
                if (at == end) {
                    return new Version(fields, k + 1);
                }
                if (here() != ';') {
                    faultAt(at);
                    return null;
                }
                at++;
            }
            faultAt(at);
            return null;
        }

        private boolean faultAt(int place) {
            fault = place;
            return false;
        }

        private int here() {
            return at < end ? text[at] : -1;
        }

        private boolean skips(char sign) {
            if (here() != sign) {
                return false;
            }
            at++;
            return true;
        }

        private Field nextField() {
            int slot = here() - 'a';
            if (!isSlot(slot) || ((lettersSeen >> slot) & 1) == 1) {
                faultAt(at);
                return null;
            }
            lettersSeen |= 1 << slot;
            at++;
            if (!skips(':')) {
                faultAt(at);
                return null;
            }
            int kind = nextKind();
            if (kind < 0) {
                return null;
            }
            int cells = nextCells();
            if (cells < 0 || !readsDefault(kind)) {
                return null;
            }
            return new Field(slot, kind, cells, skips('!'), hasDefault, number);
        }

        private int nextKind() {
            int begin = at;
            while (at < end && text[at] >= 'a' && text[at] <= 'z') {
                at++;
            }
            for (int kind = BIT; kind <= BOX; kind++) {
                if (isWord(begin, Version.word(kind))) {
                    return kind;
                }
            }
            faultAt(begin);
            return -1;
        }

        private boolean isWord(int begin, String word) {
            if (at - begin != word.length()) {
                return false;
            }
            for (int i = 0; i < word.length(); i++) {
                if (text[begin + i] != word.charAt(i)) {
                    return false;
                }
            }
            return true;
        }

        /** How many CELLS: 0 by [], 1 without brackets, -1 by a fault. */
        private int nextCells() {
            if (!skips('[')) {
                return 1;
            }
            if (skips(']')) {
                return 0;
            }
            int begin = at;
            int cells = nextDigits(2);
            if (cells < 1 || cells > CELLS) {
                faultAt(begin);
                return -1;
            }
            if (!skips(']')) {
                faultAt(at);
                return -1;
            }
            return cells;
        }

        private boolean readsDefault(int kind) {
            hasDefault = false;
            number = 0;
            if (kind == BOX || !skips('=')) {
                return true;
            }
            boolean minus = skips('-');
            int size = nextDigits(6);
            if (size < 0) {
                return faultAt(at);
            }
            hasDefault = true;
            number = minus ? -size : size;
            return true;
        }

        /** The number by the digits that stand here, most of them at most; -1: there are none. */
        private int nextDigits(int most) {
            int sum = -1;
            for (int i = 0; i < most && here() >= '0' && here() <= '9'; i++) {
                sum = 10 * Math.max(sum, 0) + here() - '0';
                at++;
            }
            return sum;
        }
    }

    /** How the numbers of a FIELD are told by the fewest bytes. */
    private static final class Plan {
        int mode = PLAIN;
        int w = 0;
        int d = NO_SUCH;
        int size = 0;

        void choose(long[] cells, int n) {
            int widest = 0;
            int widestStep = 0;
            int runs = 0;
            for (int i = 0; i < n; i++) {
                widest = Math.max(widest, Numbers.width(cells[i]));
                if (i == 0 || cells[i] != cells[i - 1]) {
                    runs++;
                }
                if (i > 0) {
                    widestStep = Math.max(widestStep, Numbers.width(cells[i] - cells[i - 1]));
                }
            }
            offer(PLAIN, widest, NO_SUCH, 1 + n * widest);
            if (n >= 2) {
                int first = Numbers.width(cells[0]);
                offer(STEPS, first, widestStep, 2 + first + (n - 1) * widestStep);
            }
            offer(RUNS, widest, NO_SUCH, 1 + runs * (1 + widest));
        }

        int tell(int what) {
            switch (what) {
                case 0:
                    return mode;
                case 1:
                    return w;
                case 2:
                    return d;
                default:
                    return size;
            }
        }

        /** PLAIN is offered first, and taken till one is shorter; of like ones the first stays. */
        private void offer(int newMode, int newW, int newD, int newSize) {
            if (newMode == PLAIN || newSize < size) {
                mode = newMode;
                w = newW;
                d = newD;
                size = newSize;
            }
        }
    }

    /** A BODY that is being put together; it has room for the longest, which no FRAME may have. */
    private static final class Body {
        private static final int ROOM = 1 + FIELDS * (1 + CELLS * (1 + WIDEST));
        final int[] bytes = new int[ROOM];
        int length = 0;

        void add(int one) {
            if (length < ROOM) {
                bytes[length] = one & 255;
                length++;
            }
        }

        void addNumber(long value, int w) {
            for (int i = w - 1; i >= 0; i--) {
                add((int) (value >> (8 * i)));
            }
        }
    }

    /** Packs SLOTS by a VERSION into a BODY, or tells what refuses it. */
    private static final class Packer {
        final Body body = new Body();
        final Plan plan = new Plan();
        final int[] kinds = new int[CELLS];
        final long[] cells = new long[CELLS];
        int atField = 0;
        int atCell = 0;
        int why = 0;

        boolean packs(Version version, Row[] slots) {
            body.length = 0;
            body.add(presentBits(version, slots));
            for (int k = 0; k < version.length; k++) {
                Field field = version.fields[k];
                Row row = slots[field.slot];
                if (!gathers(field, row)) {
                    atField = k;
                    return false;
                }
                if (row != null) {
                    addField(field, row.size());
                }
            }
            return true;
        }

        /** Brings a FIELD's CELLS into kinds and cells, as READ; not, if something refuses it. */
        boolean gathers(Field field, Row row) {
            if (row == null) {
                return !field.needed || refuses(0, NEEDED);
            }
            if (row.kind == THING) {
                return refuses(0, KIND);
            }
            if (field.cells != 0 && field.cells != row.size()) {
                return refuses(row.size(), COUNT);
            }
            for (int i = 0; i < row.size(); i++) {
                int refusal = Row.refusalToView(row, i, field.kind);
                if (refusal != 0) {
                    return refuses(i, refusal);
                }
                kinds[i] = row.kinds[i];
                cells[i] = Numbers.widened(row.kind, field.kind, row.values[i]);
            }
            return true;
        }

        private boolean refuses(int cell, int refusal) {
            atCell = cell;
            why = refusal;
            return false;
        }

        private static int presentBits(Version version, Row[] slots) {
            int bits = 0;
            for (int k = 0; k < version.length; k++) {
                if (slots[version.fields[k].slot] != null) {
                    bits |= 1 << k;
                }
            }
            return bits;
        }

        private void addField(Field field, int n) {
            if (field.cells == 0) {
                body.add(n);
            }
            if (field.kind == BOX) {
                addBoxes(n);
            } else if (n > 0) {
                addNumbers(n);
            }
        }

        private void addBoxes(int n) {
            for (int i = 0; i < n; i++) {
                if (kinds[i] == BOX) {
                    body.add(0);
                } else {
                    int w = Numbers.width(cells[i]);
                    body.add(16 * (kinds[i] + 1) + w);
                    body.addNumber(cells[i], w);
                }
            }
        }

        private void addNumbers(int n) {
            plan.choose(cells, n);
            body.add(16 * plan.mode + plan.w);
            if (plan.mode == STEPS) {
                body.add(plan.d);
                addSteps(n);
            } else if (plan.mode == RUNS) {
                addRuns(n);
            } else {
                for (int i = 0; i < n; i++) {
                    body.addNumber(cells[i], plan.w);
                }
            }
        }

        private void addSteps(int n) {
            body.addNumber(cells[0], plan.w);
            for (int i = 1; i < n; i++) {
                body.addNumber(cells[i] - cells[i - 1], plan.d);
            }
        }

        private void addRuns(int n) {
            int begin = 0;
            for (int i = 1; i <= n; i++) {
                if (i == n || cells[i] != cells[begin]) {
                    body.add(i - begin);
                    body.addNumber(cells[begin], plan.w);
                    begin = i;
                }
            }
        }
    }

    /** What stands at a place as a FRAME: its FAULT, or all that it tells. */
    private static final class Frame {
        int fault = 0;
        int faultPlace = 0;
        int version = 0;
        int length = 0;
        int behind = 0;
        final boolean[] present = new boolean[FIELDS];
        final int[] sizes = new int[FIELDS];
        final int[][] kinds = new int[FIELDS][CELLS];
        final long[][] values = new long[FIELDS][CELLS];
        private int[] bytes = new int[0];
        private int at = 0;
        private int end = 0;
        private long value = 0;

        /** The DIGEST of the bytes from begin till end. */
        static int sumOf(int[] bytes, int begin, int end) {
            int z = 7;
            for (int i = begin; i < end; i++) {
                z = 31 * z + bytes[i];
            }
            return z & 0xFFFF;
        }

        boolean stands(int[] wire, int size, int place, Version[] versions) {
            version = wire[place];
            if (!isVersion(version) || versions[version] == null) {
                return loses(1, place);
            }
            length = place + 1 < size ? wire[place + 1] : LONGEST_BODY + 1;
            behind = place + length + AROUND_BODY;
            if (length > LONGEST_BODY || behind > size) {
                return loses(2, place + 1);
            }
            int sumPlace = behind - 2;
            int sum = wire[sumPlace] << 8 | wire[sumPlace + 1];
            if (sum != sumOf(wire, place, sumPlace)) {
                return loses(3, sumPlace);
            }
            return reads(versions[version], wire, place + 2, sumPlace);
        }

        /** Reads a BODY; not, if a FAULT stops it. */
        boolean reads(Version writer, int[] from, int begin, int till) {
            bytes = from;
            at = begin;
            end = till;
            fault = 0;
            if (!readsPresent(writer)) {
                return false;
            }
            for (int k = 0; k < writer.length; k++) {
                Field field = writer.fields[k];
                if (present[k] && (!readsSize(field, k) || !readsCells(field, k))) {
                    return false;
                }
            }
            return at == end || loses(7, at);
        }

        /** Of one that isn't LOST 2 .. 6; 1: the FAULT's place. */
        int tell(int what) {
            switch (what) {
                case 1:
                    return faultPlace;
                case 2:
                    return version;
                case 3:
                    return length;
                case 4:
                    return fieldsPresent();
                case 5:
                    return cellsPresent();
                default:
                    return behind;
            }
        }

        private int fieldsPresent() {
            int fields = 0;
            for (int k = 0; k < FIELDS; k++) {
                fields += present[k] ? 1 : 0;
            }
            return fields;
        }

        private int cellsPresent() {
            int cells = 0;
            for (int k = 0; k < FIELDS; k++) {
                cells += present[k] ? sizes[k] : 0;
            }
            return cells;
        }

        private boolean loses(int newFault, int place) {
            fault = newFault;
            faultPlace = place;
            return false;
        }

        /** The next byte; -1: the BODY has ended, and that is the FAULT. */
        private int nextByte() {
            if (at >= end) {
                loses(5, end);
                return -1;
            }
            at++;
            return bytes[at - 1];
        }

        private boolean readsPresent(Version writer) {
            int place = at;
            int bits = nextByte();
            if (bits < 0) {
                return false;
            }
            if (bits >> writer.length != 0) {
                return loses(4, place);
            }
            for (int k = 0; k < FIELDS; k++) {
                present[k] = ((bits >> k) & 1) == 1;
                if (k < writer.length && writer.fields[k].needed && !present[k]) {
                    return loses(4, place);
                }
            }
            return true;
        }

        private boolean readsSize(Field field, int k) {
            sizes[k] = field.cells;
            if (field.cells != 0) {
                return true;
            }
            int n = nextByte();
            if (n < 0) {
                return false;
            }
            sizes[k] = Math.min(n, CELLS);
            return n <= CELLS || loses(4, at - 1);
        }

        private boolean readsCells(Field field, int k) {
            if (field.kind == BOX) {
                return readsBoxes(k);
            }
            if (sizes[k] == 0) {
                return true;
            }
            int head = nextByte();
            if (head < 0) {
                return false;
            }
            int way = head >> 4;
            int w = head & 15;
            if (way > RUNS || w > WIDEST || (way == STEPS && sizes[k] < 2)) {
                return loses(4, at - 1);
            }
            if (way == STEPS) {
                return readsSteps(field.kind, k, w);
            }
            return way == RUNS ? readsRuns(field.kind, k, w) : readsPlain(field.kind, k, w);
        }

        private boolean readsBoxes(int k) {
            for (int i = 0; i < sizes[k]; i++) {
                int tag = nextByte();
                if (tag < 0) {
                    return false;
                }
                int kind = tag == 0 ? BOX : (tag >> 4) - 1;
                int w = tag & 15;
                if (tag != 0 && (!Numbers.isNumberKind(kind) || w > WIDEST)) {
                    return loses(4, at - 1);
                }
                if (!readsValue(kind, w, 0)) {
                    return false;
                }
                keep(k, i, kind);
            }
            return true;
        }

        private boolean readsPlain(int kind, int k, int w) {
            for (int i = 0; i < sizes[k]; i++) {
                if (!readsValue(kind, w, 0)) {
                    return false;
                }
                keep(k, i, kind);
            }
            return true;
        }

        private boolean readsSteps(int kind, int k, int w) {
            int d = nextByte();
            if (d < 0) {
                return false;
            }
            if (d > WIDEST) {
                return loses(4, at - 1);
            }
            for (int i = 0; i < sizes[k]; i++) {
                if (!readsValue(kind, i == 0 ? w : d, i == 0 ? 0 : value)) {
                    return false;
                }
                keep(k, i, kind);
            }
            return true;
        }

        private boolean readsRuns(int kind, int k, int w) {
            int left = 0;
            for (int i = 0; i < sizes[k]; i++) {
                if (left == 0) {
                    left = nextByte();
                    if (left < 0) {
                        return false;
                    }
                    if (left == 0 || left > sizes[k] - i) {
                        return loses(4, at - 1);
                    }
                    if (!readsValue(kind, w, 0)) {
                        return false;
                    }
                }
                keep(k, i, kind);
                left--;
            }
            return true;
        }

        private void keep(int k, int i, int kind) {
            kinds[k][i] = kind;
            values[k][i] = value;
        }

        /** Reads w bytes that tell how much more than base the VALUE of a number of a KIND is. */
        private boolean readsValue(int kind, int w, long base) {
            if (end - at < w) {
                return loses(5, end);
            }
            int begin = at;
            long told = 0;
            for (int i = 0; i < w; i++) {
                // the highest byte brings the sign
                told = i == 0 ? (byte) bytes[at] : told << 8 | bytes[at];
                at++;
            }
            value = base + told;
            return Numbers.has(kind, value) || loses(6, begin);
        }
    }

    /** Takes a FRAME by a READER: a ROW (or null) for each of its FIELDS, or what refuses it. */
    private static final class Taker {
        final Row[] rows = new Row[FIELDS];
        int atField = 0;
        int atCell = 0;
        int why = 0;

        boolean takes(Frame frame, Version writer, Version reader, boolean lax) {
            for (int k = 0; k < reader.length; k++) {
                Field field = reader.fields[k];
                int from = writer.placeOf(field.slot);
                atField = k;
                atCell = 0;
                if (from >= 0 && frame.present[from]) {
                    why = fill(k, field, frame, from, lax);
                } else {
                    why = fillByDefault(k, field);
                }
                if (why != 0) {
                    return false;
                }
            }
            return true;
        }

        private int fill(int k, Field field, Frame frame, int from, boolean lax) {
            int size = frame.sizes[from];
            if (field.cells != 0 && field.cells != size) {
                atCell = size;
                return COUNT;
            }
            Row row = new Row(field.kind, size);
            for (int i = 0; i < size; i++) {
                int refusal = enter(row, i, frame.kinds[from][i], frame.values[from][i], lax);
                if (refusal != 0) {
                    atCell = i;
                    return refusal;
                }
            }
            rows[k] = row;
            return 0;
        }

        private static int enter(Row row, int i, int kind, long value, boolean lax) {
            if (row.kind != BOX && kind == BOX) {
                return GAP;
            }
            if (Row.refusalOfBox(row, i, kind) == 0) {
                row.put(i, kind, value);
                return 0;
            }
            if (!lax || !Numbers.isWholeKind(kind) || !Numbers.isWholeKind(row.kind)) {
                return KIND;
            }
            if (!Numbers.has(row.kind, value)) {
                return RANGE;
            }
            row.put(i, row.kind, value);
            return 0;
        }

        private int fillByDefault(int k, Field field) {
            if (field.needed) {
                return NEEDED;
            }
            rows[k] = null;
            if (field.hasDefault) {
                Row row = new Row(field.kind, field.cells);
                long value = Numbers.byLong(field.kind, field.number);
                for (int i = 0; i < row.size(); i++) {
                    row.values[i] = value;
                }
                rows[k] = row;
            }
            return 0;
        }
    }

    /** THE IMAGE. */
    private static final class Image {
        boolean taken = false;
        final Row[] slots = new Row[SLOTS];
        final Version[] versions = new Version[VERSIONS];
        final int[] wireBytes = new int[WIRE_ROOM];
        int wireLength = 0;
        int laxness = 0;
    }
}
