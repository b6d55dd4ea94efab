/** The boundary cases of promises 1 to 11, sentence by sentence: slots, cells. */
public final class EdgesOfSlotsTest extends Scene {
    private EdgesOfSlotsTest() {
    }

    private void newObject() {
        sentence("1: all SLOTS hold NOTHING");
        for (int s = 0; s < 8; s++) {
            due("of", x.of(s, 0), NO_SUCH);
            due("of", x.of(s, 1), NOTHING);
            due("read", x.read(s, 0, BOX), NOTHING);
            due("digest", x.digest(s), 218);
        }
        sentence("1: LAX is 0");
        due("lax", x.lax(1), 0);
        sentence("1: LAX is 0, as load() has it");
        define(0, "a:int");
        define(1, "a:byte");
        row(0, INT, 5);
        due("pack", x.pack(0), 7);
        due("load", x.load(0, 1), REFUSED);
        stopped(2, 0, 0, KIND);
        sentence("1: a new object has nothing of another one");
        RowMarshal other = x;
        usual();
        x.image();
        x = new RowMarshal();
        for (int what = 0; what < 14; what++) {
            due("count", x.count(what), 0);
        }
        due("back", x.back(), STATE);
        due("stop", x.stop(0), STATE);
        due("lax", x.lax(0), 0);
        latched(BOX, 0);
        due("the other one has its own", other.of(0, 1), 3);
    }

    private void makeNone() {
        sentence("2: NONE, slot (0 .. 7)");
        due("make", x.make(0, INT, 1), 1);
        due("make", x.make(7, INT, 1), 1);
        due("make", x.make(-1, INT, 1), NONE);
        due("make", x.make(8, INT, 1), NONE);
        for (int far : FAR) {
            due("make", x.make(far, INT, 1), NONE);
        }
        sentence("2: NONE is named ahead of BAD and SIZE");
        due("make", x.make(8, 9, 1), NONE);
        due("make", x.make(8, INT, 17), NONE);
        due("make", x.make(-1, INT, -1), NONE);
    }

    private void makeBad() {
        sentence("2: BAD, kind (0 .. 8)");
        for (int kind = 0; kind < 9; kind++) {
            due("make", x.make(0, kind, 1), 1);
            due("of", x.of(0, 0), kind);
        }
        due("make", x.make(0, -1, 1), BAD);
        due("make", x.make(0, 9, 1), BAD);
        for (int far : FAR) {
            due("make", x.make(0, far, 1), BAD);
        }
        sentence("2: BAD, n above 16");
        due("make", x.make(0, INT, 16), 1);
        due("of", x.of(0, 1), 16);
        due("make", x.make(0, INT, 17), BAD);
        due("make", x.make(0, BOX, 17), BAD);
        due("make", x.make(0, INT, HIGH), BAD);
        sentence("2: BAD is named ahead of SIZE");
        due("make", x.make(0, 9, -1), BAD);
        due("make", x.make(0, -1, LOW), BAD);
    }

    private void makeSize() {
        sentence("2: SIZE, a size below 0");
        due("make", x.make(0, INT, 0), 1);
        due("make", x.make(0, INT, -1), SIZE);
        due("make", x.make(0, BOX, -1), SIZE);
        due("make", x.make(0, INT, LOW), SIZE);
        sentence("2: a ROW has 0 .. 16 CELLS");
        due("make", x.make(0, DOUBLE, 0), 1);
        due("of", x.of(0, 1), 0);
        due("read", x.read(0, 0, BOX), PLACE);
        due("make", x.make(0, DOUBLE, 16), 1);
        due("read", x.read(0, 15, BOX), 1);
        due("read", x.read(0, 16, BOX), PLACE);
        sentence("2: what is answered so changes nothing");
        usual();
        String before = state();
        due("make", x.make(8, INT, 1), NONE);
        due("make", x.make(0, 9, 1), BAD);
        due("make", x.make(0, INT, 17), BAD);
        due("make", x.make(0, INT, -1), SIZE);
        check.due("state", state(), before);
    }

    private void makeAtFirst() {
        sentence("==== 1: all 0 at first, false");
        for (int kind = 0; kind < 8; kind++) {
            x.make(kind, kind, 16);
            for (int i = 0; i < 16; i += 5) {
                cell(kind, i, kind, 0);
            }
        }
        sentence("==== 1: boxes, all MISSING at first");
        x.make(0, BOX, 16);
        for (int i = 0; i < 16; i++) {
            cell(0, i, BOX, 0);
        }
        sentence("2: a new ROW, whatever the SLOT held");
        row(0, INT, 5);
        x.same(1, 0);
        x.make(0, INT, 1);
        cell(0, 0, INT, 0);
        cell(1, 0, INT, 5);
        due("of", x.of(0, 2), 1);
        x.thing(0, 1);
        due("make", x.make(0, BIT, 1), 1);
        due("of", x.of(0, 0), BIT);
    }

    private void thing() {
        sentence("3: NONE, slot (0 .. 7)");
        due("thing", x.thing(0, 1), 1);
        due("thing", x.thing(7, 1), 1);
        due("thing", x.thing(-1, 1), NONE);
        due("thing", x.thing(8, 0), NONE);
        for (int far : FAR) {
            due("thing", x.thing(far, 1), NONE);
        }
        sentence("3: NONE is named ahead of BAD");
        due("thing", x.thing(8, 2), NONE);
        due("thing", x.thing(-1, -1), NONE);
        sentence("3: BAD, what (1, 0)");
        due("thing", x.thing(0, -1), BAD);
        due("thing", x.thing(0, 2), BAD);
        for (int far : FAR) {
            due("thing", x.thing(0, far), BAD);
        }
        due("of", x.of(0, 0), NO_SUCH);
        sentence("3: a THING (what 1), whatever the SLOT held");
        row(0, INT, 5);
        x.same(1, 0);
        due("thing", x.thing(0, 1), 1);
        due("of", x.of(0, 0), THING);
        due("of", x.of(1, 0), INT);
        due("thing", x.thing(0, 1), 1);
        due("of", x.of(0, 0), THING);
        sentence("3: NOTHING (0), whatever the SLOT held");
        due("of nothing", x.thing(3, 0), 1);
        due("of", x.of(3, 0), NO_SUCH);
        row(0, INT, 5);
        x.same(1, 0);
        due("of a row", x.thing(0, 0), 1);
        due("of", x.of(0, 0), NO_SUCH);
        due("of", x.of(1, 2), 1);
        x.thing(0, 1);
        due("of a thing", x.thing(0, 0), 1);
        due("of", x.of(0, 0), NO_SUCH);
    }

    private void same() {
        sentence("4: NONE, either SLOT");
        row(0, INT, 5);
        due("same", x.same(7, 0), 1);
        due("same", x.same(0, 7), 1);
        due("same", x.same(-1, 0), NONE);
        due("same", x.same(8, 0), NONE);
        due("same", x.same(0, -1), NONE);
        due("same", x.same(0, 8), NONE);
        for (int far : FAR) {
            due("same", x.same(far, 0), NONE);
            due("same", x.same(0, far), NONE);
        }
        due("it stays", x.of(0, 0), INT);
        sentence("==== 1: several may hold the very same ROW, all eight, too");
        row(3, SHORT, 1, 2);
        for (int s = 0; s < 8; s++) {
            due("same", x.same(s, 3), 1);
        }
        due("of", x.of(6, 2), 8);
        due("write", x.write(7, 1, SHORT, 9), 1);
        for (int s = 0; s < 8; s++) {
            cell(s, 1, SHORT, 9);
        }
        sentence("4: or what else it is: NOTHING");
        row(0, INT, 5);
        due("same", x.same(0, 1), 1);
        due("of", x.of(0, 0), NO_SUCH);
        sentence("4: or what else it is: a THING");
        row(0, INT, 5);
        x.thing(1, 1);
        due("same", x.same(0, 1), 1);
        due("of", x.of(0, 0), THING);
        sentence("4: of the SLOT itself");
        row(0, INT, 5);
        due("same", x.same(0, 0), 1);
        due("of", x.of(0, 2), 1);
        cell(0, 0, INT, 5);
    }

    private void of() {
        sentence("5: NONE, slot");
        x.make(0, INT, 1);
        x.make(7, INT, 1);
        due("of", x.of(0, 1), 1);
        due("of", x.of(7, 1), 1);
        due("of", x.of(-1, 1), NONE);
        due("of", x.of(8, 0), NONE);
        for (int far : FAR) {
            due("of", x.of(far, 0), NONE);
        }
        sentence("5: NONE, what (0 .. 2), ahead of NOTHING and KIND");
        x.thing(1, 1);
        x.make(2, INT, 1);
        for (int s = 0; s < 3; s++) {
            due("of", x.of(s, -1), NONE);
            due("of", x.of(s, 3), NONE);
            for (int far : FAR) {
                due("of", x.of(s, far), NONE);
            }
        }
        sentence("5: what 0, -5 NOTHING, 9 a THING");
        due("of", x.of(0, 0), NO_SUCH);
        x.thing(0, 1);
        due("of", x.of(0, 0), THING);
        sentence("5: (1, 2) NOTHING");
        due("of", x.of(0, 1), NOTHING);
        due("of", x.of(0, 2), NOTHING);
        sentence("5: (1, 2) KIND, a THING");
        x.thing(0, 1);
        x.same(1, 0);
        due("of", x.of(0, 1), KIND);
        due("of", x.of(0, 2), KIND);
        sentence("5: 2 how many SLOTS hold the very same, like ones don't count");
        x.make(0, INT, 1);
        x.make(1, INT, 1);
        due("of", x.of(0, 2), 1);
        x.same(2, 0);
        due("of", x.of(0, 2), 2);
        due("of", x.of(1, 2), 1);
    }

    private void readNone() {
        sentence("6: NONE, slot, and THE LATCH stays");
        row(0, INT, 5);
        row(7, INT, 6);
        due("read", x.read(0, 0, INT), 1);
        due("read", x.read(7, 0, INT), 1);
        due("read", x.read(-1, 0, INT), NONE);
        due("read", x.read(8, 0, INT), NONE);
        for (int far : FAR) {
            due("read", x.read(far, 0, INT), NONE);
        }
        latched(INT, 6);
        sentence("6: NONE, view (0 .. 8), ahead of the refusals");
        row(0, INT, 5);
        due("read", x.read(0, 0, BOX), 1);
        due("read", x.read(0, 0, 9), NONE);
        due("read", x.read(0, 0, -1), NONE);
        for (int far : FAR) {
            due("read", x.read(0, 0, far), NONE);
        }
        due("of nothing", x.read(1, 0, 9), NONE);
        x.thing(1, 1);
        due("of a thing", x.read(1, 0, -1), NONE);
        due("where no cell is", x.read(0, 9, 9), NONE);
        due("count", x.count(11) + x.count(12) + x.count(13), 0);
    }

    private void readRefused() {
        sentence("==== 1, READ: NOTHING, the first");
        for (int view = 0; view < 9; view++) {
            due("read", x.read(0, 0, view), NOTHING);
            due("read", x.read(0, -1, view), NOTHING);
        }
        sentence("==== 1, READ: KIND, a THING, ahead of PLACE, by each VIEW");
        x.thing(0, 1);
        for (int view = 0; view < 9; view++) {
            due("read", x.read(0, 0, view), KIND);
            due("read", x.read(0, -1, view), KIND);
            due("read", x.read(0, 16, view), KIND);
        }
        sentence("==== 1, READ: KIND, by VIEWS 0 .. 7 a ROW of boxes, ahead of PLACE");
        x.make(0, BOX, 1);
        x.box(0, 0, INT, 5);
        x.make(1, BOX, 0);
        for (int view = 0; view < 8; view++) {
            due("read", x.read(0, 0, view), KIND);
            due("read", x.read(0, 1, view), KIND);
            due("read", x.read(0, -1, view), KIND);
            due("read", x.read(1, 0, view), KIND);
        }
        due("by view 8", x.read(0, 0, BOX), 1);
        due("by view 8", x.read(0, 1, BOX), PLACE);
        sentence("==== 1, READ: PLACE, there is no CELL i");
        row(0, INT, 1, 2, 3);
        for (int view : new int[] {INT, DOUBLE, BOX}) {
            due("read", x.read(0, 0, view), 1);
            due("read", x.read(0, 2, view), 1);
            due("read", x.read(0, 3, view), PLACE);
            due("read", x.read(0, -1, view), PLACE);
            due("read", x.read(0, HIGH, view), PLACE);
            due("read", x.read(0, LOW, view), PLACE);
        }
        x.make(1, INT, 0);
        due("of none", x.read(1, 0, INT), PLACE);
        sentence("==== 1, READ: PLACE, ahead of a KIND that doesn't WIDEN");
        row(0, LONG, 1);
        due("read", x.read(0, 1, INT), PLACE);
        due("read", x.read(0, -1, BIT), PLACE);
        due("read", x.read(0, 0, INT), KIND);
        sentence("6: refusals (THE LATCH stays)");
        row(0, LONG, 77);
        x.make(1, BOX, 1);
        x.thing(2, 1);
        due("read", x.read(0, 0, LONG), 1);
        due("read", x.read(3, 0, LONG), NOTHING);
        latched(LONG, 77);
        due("read", x.read(2, 0, LONG), KIND);
        due("read", x.read(1, 0, LONG), KIND);
        due("read", x.read(0, 0, INT), KIND);
        latched(LONG, 77);
        due("read", x.read(0, 1, LONG), PLACE);
        latched(LONG, 77);
    }

    private void widenings() {
        sentence("==== 1: a KIND WIDENS to itself, and to those told; the same number");
        for (int from = 0; from < 8; from++) {
            long v = from == BIT ? 1 : from == SIGN ? 65535 : -100;
            row(0, from, v);
            for (int view = 0; view < 8; view++) {
                String call = "read " + WORDS[from] + " by " + WORDS[view];
                due(call, x.read(0, 0, view), widens(from, view) ? 1 : KIND);
                if (widens(from, view)) {
                    latched(view, valueBy(view, v));
                }
            }
        }
        sentence("==== 1: by VIEW 8 of numbers a number of the ROW's KIND");
        for (int kind = 0; kind < 8; kind++) {
            row(0, kind, 1);
            cell(0, 0, kind, valueBy(kind, 1));
        }
        sentence("==== 1: (float, double: the nearest), of two as near the even one");
        long[] halves = {16777217, 16777218, 16777219, 33554434, 33554438, -16777217, HIGH, LOW};
        for (long v : halves) {
            row(0, INT, v);
            due("read", x.read(0, 0, FLOAT), 1);
            latched(FLOAT, Float.floatToIntBits((float) v));
            due("read", x.read(0, 0, DOUBLE), 1);
            latched(DOUBLE, Double.doubleToLongBits((double) v));
        }
        long[] more = {(1L << 53) + 1, (1L << 53) + 3, Long.MAX_VALUE, Long.MIN_VALUE,
            Long.MAX_VALUE - 512, Long.MAX_VALUE - 511, (1L << 60) + (1L << 36) + 1};
        for (long v : more) {
            row(0, LONG, v);
            due("read", x.read(0, 0, FLOAT), 1);
            latched(FLOAT, Float.floatToIntBits((float) v));
            due("read", x.read(0, 0, DOUBLE), 1);
            latched(DOUBLE, Double.doubleToLongBits((double) v));
        }
        sentence("==== 1: float to 7, the same number, 0 below nought, too");
        x.make(0, FLOAT, 1);
        x.real(0, 0, FLOAT, 0, -1);
        due("read", x.read(0, 0, DOUBLE), 1);
        latched(DOUBLE, Double.doubleToLongBits(-0.0));
        x.real(0, 0, FLOAT, 1, 3);
        due("read", x.read(0, 0, DOUBLE), 1);
        latched(DOUBLE, Double.doubleToLongBits(1f / 3f));
        // no number that write() or real() makes is so small, but a FRAME may tell it
        int[] small = {1, 2, 3, 0x400000, 0x7FFFFF, 0x800000, LOW + 1, LOW + 0x7FFFFF};
        for (int bits : small) {
            sentence("==== 1: float to 7, the same number, the smallest ones, too");
            define(0, "a:float");
            Check.wireOf(x, 0, 1, 4, bits >>> 24, bits >> 16 & 255, bits >> 8 & 255, bits & 255);
            due("load", x.load(0, 0), 10);
            cell(0, 0, FLOAT, bits);
            due("read", x.read(0, 0, DOUBLE), 1);
            latched(DOUBLE, Double.doubleToLongBits(Float.intBitsToFloat(bits)));
        }
    }

    private void latch() {
        sentence("==== 1: THE LATCH, MISSING at first");
        latched(BOX, 0);
        sentence("7: NO, what (0, 1)");
        row(0, INT, 5);
        x.read(0, 0, INT);
        due("latch", x.latch(0), INT);
        due("latch", x.latch(1), 5);
        due("latch", x.latch(-1), RowMarshal.NO);
        due("latch", x.latch(2), RowMarshal.NO);
        for (int far : FAR) {
            due("latch", x.latch(far), RowMarshal.NO);
        }
        sentence("7: what read() gave last, and nothing else");
        row(0, INT, 5);
        x.read(0, 0, LONG);
        x.write(0, 0, INT, 6);
        x.make(1, BOX, 1);
        x.box(1, 0, INT, 9);
        define(0, "a:int");
        x.pack(0);
        x.load(0, 0);
        x.alike(0, 1);
        x.trip(0, 0);
        latched(LONG, 5);
        due("a MISSING one", x.box(1, 0, BOX, 0), 1);
        cell(1, 0, BOX, 0);
        sentence("==== 1, VALUE: bit 1, 0");
        row(0, BIT, 1, 0);
        cell(0, 0, BIT, 1);
        cell(0, 1, BIT, 0);
        sentence("==== 1, VALUE: sign its code");
        row(0, SIGN, 65, 65535);
        cell(0, 0, SIGN, 65);
        cell(0, 1, SIGN, 65535);
        sentence("==== 1, VALUE: float floatToIntBits (as an int's)");
        row(0, FLOAT, 1, -1);
        cell(0, 0, FLOAT, 0x3F800000L);
        cell(0, 1, FLOAT, 0xBF800000);
        x.real(0, 0, FLOAT, 0, -1);
        cell(0, 0, FLOAT, LOW);
        sentence("==== 1, VALUE: double doubleToLongBits");
        row(0, DOUBLE, 1, -1);
        cell(0, 0, DOUBLE, 0x3FF0000000000000L);
        cell(0, 1, DOUBLE, 0xBFF0000000000000L);
        x.real(0, 0, DOUBLE, 0, -1);
        cell(0, 0, DOUBLE, Long.MIN_VALUE);
    }

    private void numbersBy(String words, int kind, long... pairs) {
        sentence("==== 1, the number of a KIND by a long v: " + words);
        for (int i = 0; i < pairs.length; i += 2) {
            x.make(0, kind, 1);
            due("write", x.write(0, 0, kind, pairs[i]), 1);
            cell(0, 0, kind, pairs[i + 1]);
            x.make(1, BOX, 1);
            due("box", x.box(1, 0, kind, pairs[i]), 1);
            cell(1, 0, kind, pairs[i + 1]);
        }
    }

    private void numbersByLongs() {
        numbersBy("bit, whether v isn't 0", BIT, 0, 0, 1, 1, -1, 1, 2, 1, 256, 1, 1L << 32, 1,
            Long.MIN_VALUE, 1, Long.MAX_VALUE, 1);
        numbersBy("byte, the lowest bits", BYTE, 127, 127, 128, -128, -128, -128, -129, 127, 255,
            -1, 256, 0, Long.MAX_VALUE, -1, Long.MIN_VALUE, 0);
        numbersBy("sign, the lowest bits", SIGN, 65535, 65535, 65536, 0, -1, 65535, -65536, 0,
            32768, 32768, Long.MAX_VALUE, 65535, Long.MIN_VALUE, 0);
        numbersBy("short, the lowest bits", SHORT, 32767, 32767, 32768, -32768, -32768, -32768,
            -32769, 32767, 65535, -1, 65536, 0, Long.MAX_VALUE, -1, Long.MIN_VALUE, 0);
        numbersBy("int, the lowest bits", INT, HIGH, HIGH, HIGH + 1L, LOW, LOW, LOW, LOW - 1L,
            HIGH, 1L << 32, 0, Long.MAX_VALUE, -1, Long.MIN_VALUE, 0);
        numbersBy("long, the lowest bits", LONG, Long.MAX_VALUE, Long.MAX_VALUE, Long.MIN_VALUE,
            Long.MIN_VALUE, 0, 0, -1, -1);
        long[] some = {0, 1, -1, (1 << 24) - 1, 1 << 24, (1 << 24) + 1, (1 << 24) + 2,
            (1 << 24) + 3, -(1 << 24) - 1, -(1 << 24) - 3, (1L << 53) - 1, (1L << 53) + 1,
            (1L << 53) + 2, (1L << 53) + 3, -(1L << 53) - 1, Long.MAX_VALUE, Long.MIN_VALUE,
            Long.MIN_VALUE + 1, (1L << 60) + (1L << 36) + 1, 0x7FFFFF4000000000L,
            0x7FFFFFBFFFFFFFFFL, 0x7FFFFFC000000000L};
        long[] floats = new long[2 * some.length];
        long[] doubles = new long[2 * some.length];
        for (int i = 0; i < some.length; i++) {
            floats[2 * i] = some[i];
            floats[2 * i + 1] = Float.floatToIntBits((float) some[i]);
            doubles[2 * i] = some[i];
            doubles[2 * i + 1] = Double.doubleToLongBits((double) some[i]);
        }
        numbersBy("float, the nearest", FLOAT, floats);
        numbersBy("double, the nearest", DOUBLE, doubles);
    }

    private void writeNone() {
        sentence("8: NONE, slot");
        row(0, INT, 5);
        row(7, INT, 5);
        due("write", x.write(0, 0, INT, 6), 1);
        due("write", x.write(7, 0, INT, 6), 1);
        due("write", x.write(-1, 0, INT, 7), NONE);
        due("write", x.write(8, 0, INT, 7), NONE);
        for (int far : FAR) {
            due("write", x.write(far, 0, INT, 7), NONE);
        }
        sentence("8: NONE, kind (0 .. 7), ahead of the refusals");
        x.make(0, BOX, 1);
        due("write", x.write(0, 0, 8, 0), NONE);
        due("write", x.write(0, 0, -1, 0), NONE);
        due("of nothing", x.write(1, 0, 8, 0), NONE);
        due("of nothing", x.write(1, 0, 7, 0), NOTHING);
        due("where no cell is", x.write(0, 9, 9, 0), NONE);
        for (int far : FAR) {
            due("write", x.write(0, 0, far, 0), NONE);
        }
        due("count", x.count(11) + x.count(12) + x.count(13), 1);
    }

    private void writeRefused() {
        sentence("==== 1, WRITTEN: NOTHING, the first");
        for (int kind = 0; kind < 8; kind++) {
            due("write", x.write(0, 0, kind, 1), NOTHING);
            due("write", x.write(0, -1, kind, 1), NOTHING);
        }
        sentence("==== 1, WRITTEN: KIND, a THING, ahead of PLACE");
        x.thing(0, 1);
        due("write", x.write(0, 0, INT, 1), KIND);
        due("write", x.write(0, -1, INT, 1), KIND);
        sentence("==== 1, WRITTEN: KIND, a ROW of boxes, ahead of PLACE");
        x.make(0, BOX, 1);
        for (int kind = 0; kind < 8; kind++) {
            due("write", x.write(0, 0, kind, 1), KIND);
            due("write", x.write(0, 1, kind, 1), KIND);
            due("write", x.write(0, -1, kind, 1), KIND);
        }
        cell(0, 0, BOX, 0);
        sentence("==== 1, WRITTEN: PLACE, there is no CELL i");
        row(0, INT, 1, 2, 3);
        due("write", x.write(0, 2, INT, 9), 1);
        due("write", x.write(0, 3, INT, 9), PLACE);
        due("write", x.write(0, -1, INT, 9), PLACE);
        due("write", x.write(0, HIGH, INT, 9), PLACE);
        due("write", x.write(0, LOW, INT, 9), PLACE);
        x.make(1, INT, 0);
        due("of none", x.write(1, 0, INT, 9), PLACE);
        sentence("==== 1, WRITTEN: PLACE, ahead of a KIND that doesn't WIDEN");
        row(0, INT, 1);
        due("write", x.write(0, 1, LONG, 9), PLACE);
        due("write", x.write(0, -1, BIT, 9), PLACE);
        sentence("==== 1, WRITTEN: KIND, it doesn't WIDEN to the ROW's; the CELL stays");
        for (int to = 0; to < 8; to++) {
            row(0, to, 1);
            for (int from = 0; from < 8; from++) {
                String call = "write " + WORDS[from] + " into " + WORDS[to];
                due(call, x.write(0, 0, from, 0), widens(from, to) ? 1 : KIND);
                cell(0, 0, to, widens(from, to) ? 0 : valueBy(to, 1));
                x.write(0, 0, to, 1);
            }
        }
    }

    private void realNone() {
        sentence("9: NONE, slot, ahead of BAD");
        x.make(0, FLOAT, 1);
        x.make(7, FLOAT, 1);
        due("real", x.real(0, 0, FLOAT, 1, 1), 1);
        due("real", x.real(7, 0, FLOAT, 1, 1), 1);
        due("real", x.real(-1, 0, FLOAT, 1, 0), NONE);
        due("real", x.real(8, 0, FLOAT, 1, 1), NONE);
        for (int far : FAR) {
            due("real", x.real(far, 0, FLOAT, 1, 1), NONE);
        }
        sentence("9: NONE, kind (6, 7), ahead of BAD and the refusals");
        x.make(0, DOUBLE, 1);
        for (int kind = -1; kind < 10; kind++) {
            due("real", x.real(0, 0, kind, 1, 1), kind == 6 || kind == 7 ? 1 : NONE);
            due("real", x.real(0, 0, kind, 1, 0), kind == 6 || kind == 7 ? BAD : NONE);
            due("real", x.real(3, 0, kind, 1, 1), kind == 6 || kind == 7 ? NOTHING : NONE);
        }
        sentence("9: BAD, the number below is 0, ahead of the refusals");
        due("of nothing", x.real(0, 0, DOUBLE, 1, 0), BAD);
        x.make(0, DOUBLE, 1);
        x.real(0, 0, DOUBLE, 1, 2);
        due("real", x.real(0, 0, DOUBLE, 0, 0), BAD);
        due("where no cell is", x.real(0, 1, DOUBLE, 1, 0), BAD);
        cell(0, 0, DOUBLE, Double.doubleToLongBits(0.5));
        due("count", x.count(11) + x.count(12) + x.count(13), 0);
    }

    private void quotient(int above, int below) {
        due("real", x.real(0, 0, FLOAT, above, below), 1);
        cell(0, 0, FLOAT, Float.floatToIntBits((float) above / (float) below));
        due("real", x.real(1, 0, DOUBLE, above, below), 1);
        cell(1, 0, DOUBLE, Double.doubleToLongBits((double) above / (double) below));
    }

    private void real() {
        sentence("9: the number below may be less than 0");
        x.make(0, FLOAT, 1);
        x.make(1, DOUBLE, 1);
        quotient(7, -2);
        quotient(-7, -2);
        quotient(-7, 2);
        quotient(-1, 3);
        quotient(1, -1);
        quotient(-1, -1);
        quotient(1, LOW);
        quotient(LOW, -1);
        quotient(LOW, LOW);
        sentence("9: above by below, 0 above");
        x.make(0, FLOAT, 1);
        x.make(1, DOUBLE, 1);
        quotient(0, 5);
        quotient(0, -5);
        quotient(0, HIGH);
        quotient(0, LOW);
        sentence("9: above by below, both as such: each is a float ahead of the division");
        x.make(0, FLOAT, 1);
        x.make(1, DOUBLE, 1);
        quotient(16777215, 1);
        quotient(123456789, 1);
        quotient(16777217, 1);
        quotient(1, 16777217);
        quotient(16777217, 16777219);
        quotient(HIGH, 3);
        quotient(HIGH, HIGH - 1);
        quotient(1, HIGH);
        quotient(1, 3);
        quotient(2, 3);
        quotient(123456789, 987654321);
        sentence("9: WRITTEN as a float into doubles: the same number");
        x.make(0, DOUBLE, 1);
        due("real", x.real(0, 0, FLOAT, 1, 3), 1);
        cell(0, 0, DOUBLE, Double.doubleToLongBits(1f / 3f));
        sentence("9: refusals, NOTHING");
        due("real", x.real(0, -1, FLOAT, 1, 1), NOTHING);
        sentence("9: refusals, KIND, a THING, a ROW of boxes, ahead of PLACE");
        x.thing(0, 1);
        x.make(1, BOX, 1);
        due("real", x.real(0, 5, FLOAT, 1, 1), KIND);
        due("real", x.real(1, 5, DOUBLE, 1, 1), KIND);
        due("real", x.real(1, 0, DOUBLE, 1, 1), KIND);
        sentence("9: refusals, PLACE, ahead of a KIND that doesn't WIDEN");
        x.make(0, FLOAT, 2);
        due("real", x.real(0, 1, FLOAT, 1, 1), 1);
        due("real", x.real(0, 2, FLOAT, 1, 1), PLACE);
        due("real", x.real(0, 2, DOUBLE, 1, 1), PLACE);
        due("real", x.real(0, -1, DOUBLE, 1, 1), PLACE);
        sentence("9: refusals, KIND, it doesn't WIDEN to the ROW's");
        for (int to = 0; to < 8; to++) {
            x.make(0, to, 1);
            due("float", x.real(0, 0, FLOAT, 1, 1), to >= FLOAT ? 1 : KIND);
            due("double", x.real(0, 0, DOUBLE, 1, 1), to == DOUBLE ? 1 : KIND);
        }
    }

    private void box() {
        sentence("10: NONE, slot");
        x.make(0, BOX, 1);
        x.make(7, BOX, 1);
        due("box", x.box(0, 0, INT, 1), 1);
        due("box", x.box(7, 0, INT, 1), 1);
        due("box", x.box(-1, 0, INT, 1), NONE);
        due("box", x.box(8, 0, INT, 1), NONE);
        for (int far : FAR) {
            due("box", x.box(far, 0, INT, 1), NONE);
        }
        sentence("10: NONE, kind (0 .. 8), ahead of the refusals");
        x.make(0, BOX, 1);
        for (int kind = 0; kind < 9; kind++) {
            due("box", x.box(0, 0, kind, 1), 1);
        }
        due("box", x.box(0, 0, 9, 1), NONE);
        due("box", x.box(0, 0, -1, 1), NONE);
        due("of nothing", x.box(1, 0, 9, 1), NONE);
        for (int far : FAR) {
            due("box", x.box(0, 0, far, 1), NONE);
        }
        cell(0, 0, BOX, 0);
        sentence("10: 8 MISSING, whatever v is");
        x.make(0, BOX, 1);
        x.box(0, 0, INT, 5);
        due("box", x.box(0, 0, BOX, 77), 1);
        cell(0, 0, BOX, 0);
        sentence("==== 1, BOXED: a ROW of boxes takes all, as they are");
        x.make(0, BOX, 9);
        for (int kind = 0; kind < 9; kind++) {
            due("box", x.box(0, kind, kind, -1), 1);
            cell(0, kind, kind, kind == BOX ? 0 : valueBy(kind, -1));
        }
    }

    private void boxRefused() {
        sentence("==== 1, BOXED: NOTHING, the first");
        for (int kind = 0; kind < 9; kind++) {
            due("box", x.box(0, 0, kind, 1), NOTHING);
            due("box", x.box(0, -1, kind, 1), NOTHING);
        }
        sentence("==== 1, BOXED: KIND, a THING, ahead of PLACE");
        x.thing(0, 1);
        for (int kind = 0; kind < 9; kind++) {
            due("box", x.box(0, 0, kind, 1), KIND);
            due("box", x.box(0, -1, kind, 1), KIND);
        }
        sentence("==== 1, BOXED: KIND, MISSING for a ROW of numbers, ahead of PLACE");
        for (int kind = 0; kind < 8; kind++) {
            row(0, kind, 1);
            due("box", x.box(0, 0, BOX, 0), KIND);
            due("box", x.box(0, 1, BOX, 0), KIND);
            due("box", x.box(0, -1, BOX, 0), KIND);
            cell(0, 0, kind, valueBy(kind, 1));
        }
        sentence("==== 1, BOXED: PLACE, there is no CELL i");
        x.make(0, BOX, 2);
        due("box", x.box(0, 1, INT, 1), 1);
        due("box", x.box(0, 2, INT, 1), PLACE);
        due("box", x.box(0, 2, BOX, 1), PLACE);
        due("box", x.box(0, -1, INT, 1), PLACE);
        due("box", x.box(0, HIGH, INT, 1), PLACE);
        due("box", x.box(0, LOW, INT, 1), PLACE);
        x.make(1, BOX, 0);
        due("of none", x.box(1, 0, INT, 1), PLACE);
        sentence("==== 1, BOXED: PLACE, ahead of a number that doesn't WIDEN");
        x.make(0, INT, 1);
        due("box", x.box(0, 1, LONG, 1), PLACE);
        due("box", x.box(0, -1, BIT, 1), PLACE);
        sentence("==== 1, BOXED: KIND, a number that doesn't WIDEN to the ROW's");
        for (int to = 0; to < 8; to++) {
            row(0, to, 1);
            for (int from = 0; from < 8; from++) {
                String call = "box " + WORDS[from] + " into " + WORDS[to];
                due(call, x.box(0, 0, from, 0), widens(from, to) ? 1 : KIND);
                cell(0, 0, to, widens(from, to) ? 0 : valueBy(to, 1));
                x.box(0, 0, to, 1);
            }
        }
    }

    private void refusedStays() {
        sentence("6, 8, 9, 10: what is answered so changes nothing");
        usual();
        String before = state();
        due("read", x.read(3, 0, BOX), NOTHING);
        due("write", x.write(3, 0, INT, 1), NOTHING);
        due("write", x.write(0, 0, LONG, 9), KIND);
        due("write", x.write(0, 3, INT, 9), PLACE);
        due("write", x.write(8, 0, INT, 9), NONE);
        due("real", x.real(0, 0, FLOAT, 9, 1), KIND);
        due("real", x.real(0, 0, FLOAT, 9, 0), BAD);
        due("box", x.box(0, 0, BOX, 9), KIND);
        due("box", x.box(1, 2, INT, 9), PLACE);
        due("box", x.box(2, 0, INT, 9), KIND);
        check.due("state", state(), before);
    }

    private void lax() {
        sentence("11: BAD, v (0, 1)");
        due("lax", x.lax(1), 0);
        due("lax", x.lax(-1), BAD);
        due("lax", x.lax(2), BAD);
        for (int far : FAR) {
            due("lax", x.lax(far), BAD);
        }
        due("it stays", x.lax(0), 1);
        due("lax", x.lax(2), BAD);
        due("it stays", x.lax(0), 0);
        sentence("11: what it was, the same one, too");
        due("lax", x.lax(0), 0);
        due("lax", x.lax(1), 0);
        due("lax", x.lax(1), 1);
        due("lax", x.lax(0), 1);
    }

    private void all() {
        newObject();
        makeNone();
        makeBad();
        makeSize();
        makeAtFirst();
        thing();
        same();
        of();
        readNone();
        readRefused();
        widenings();
        latch();
        numbersByLongs();
        writeNone();
        writeRefused();
        realNone();
        real();
        box();
        boxRefused();
        refusedStays();
        lax();
        check.end();
    }

    public static void main(String[] args) {
        new EdgesOfSlotsTest().all();
    }
}
