/** The boundary cases of promise 18 and of the terms under ==== 3: what is PACKED, byte by byte. */
public final class EdgesOfPackingTest extends Scene {
    private EdgesOfPackingTest() {
    }

    /** pack() by VERSION 0 brings this BODY onto an empty WIRE. */
    private void packs(String body) {
        x.cut(0);
        due("pack", x.pack(0), body.length() / 2 + 4);
        framed(0, body);
    }

    private void refuses(int field, int cell, int why) {
        due("pack", x.pack(0), REFUSED);
        stopped(1, field, cell, why);
    }

    private void present() {
        sentence("==== 3: PRESENT, bit k for FIELD k, if its SLOT doesn't hold NOTHING");
        define(0, "h:bit;g:bit;f:bit;e:bit;d:bit;c:bit;b:bit;a:bit");
        packs("00");
        for (int k = 0; k < 8; k++) {
            row(7 - k, BIT, 0);
            packs(String.format("%02x", 1 << k) + "00");
            x.thing(7 - k, 0);
        }
        for (int s = 0; s < 8; s++) {
            row(s, BIT, 0);
        }
        packs("ff" + "00".repeat(8));
        sentence("==== 3: then, FIELD by FIELD, those that are");
        define(0, "b:byte;a:byte;c:byte");
        row(0, BYTE, 1);
        row(1, BYTE, 2);
        row(2, BYTE, 3);
        packs("07" + "0102" + "0101" + "0103");
        x.thing(0, 0);
        packs("05" + "0102" + "0103");
        sentence("==== 3: a ROW that no FIELD names isn't told");
        define(0, "a:byte");
        row(1, BYTE, 2);
        x.thing(2, 1);
        packs("00");
    }

    private void counts() {
        sentence("==== 3: with [] how many CELLS the ROW has (a byte): none, nothing behind");
        define(0, "a:byte[];b:box[]");
        x.make(0, BYTE, 0);
        x.make(1, BOX, 0);
        packs("03" + "00" + "00");
        sentence("==== 3: with [] how many CELLS the ROW has (a byte): sixteen");
        define(0, "a:byte[];b:box[]");
        x.make(0, BYTE, 16);
        x.make(1, BOX, 16);
        packs("03" + "10" + "00" + "10" + "00".repeat(16));
        sentence("==== 3: without [] no byte for it");
        define(0, "a:byte[2];b:box[2];c:byte");
        x.make(0, BYTE, 2);
        x.make(1, BOX, 2);
        x.make(2, BYTE, 1);
        packs("07" + "00" + "0000" + "00");
        sentence("==== 3: numbers of a FIELD, nothing, if it has no CELLS, of every KIND");
        for (int kind = 0; kind < 9; kind++) {
            define(0, "a:" + WORDS[kind] + "[]");
            x.make(0, kind, 0);
            packs("0100");
        }
    }

    private void asRead() {
        sentence("==== 3: CELLS as READ by the FIELD's KIND");
        row(0, BYTE, -2);
        String[] bodies = {"01fe", null, "01fe", "01fe", "01fe", "04c0000000",
            "08c000000000000000"};
        for (int kind = BYTE; kind <= DOUBLE; kind++) {
            define(0, "a:" + WORDS[kind]);
            if (kind == SIGN) {
                refuses(0, 0, KIND);
            } else {
                packs("01" + bodies[kind - 1]);
            }
        }
        sentence("==== 3: box: by VIEW 8, of numbers, too");
        define(0, "a:box[2]");
        row(0, BYTE, -2, 0);
        packs("01" + "21fe" + "20");
        row(0, BIT, 1, 0);
        packs("01" + "1101" + "10");
        sentence("==== 3: a number's WIDTH is that of its VALUE: float by its bits");
        define(0, "a:float");
        row(0, FLOAT, 1);
        packs("01" + "043f800000");
        x.real(0, 0, FLOAT, 0, 1);
        packs("0100");
        x.real(0, 0, FLOAT, 0, -1);
        packs("01" + "0480000000");
        sentence("==== 3: a number's WIDTH is that of its VALUE: double by its bits");
        define(0, "a:double");
        row(0, DOUBLE, 0);
        packs("0100");
        x.real(0, 0, DOUBLE, 0, -1);
        packs("01" + "088000000000000000");
        sentence("==== 3: a number's WIDTH is that of its VALUE: sign by its code");
        define(0, "a:sign");
        row(0, SIGN, 127);
        packs("01" + "017f");
        row(0, SIGN, 128);
        packs("01" + "020080");
        row(0, SIGN, 65535);
        packs("01" + "0300ffff");
        sentence("==== 3: a number's WIDTH is that of its VALUE: bit 1, 0");
        define(0, "a:bit[2]");
        row(0, BIT, 0, 0);
        packs("01" + "00");
        row(0, BIT, 0, 1);
        packs("01" + "010001");
    }

    private static String hexOf(long v, int w) {
        return w == 0 ? "" : String.format("%016x", v).substring(16 - 2 * w);
    }

    private void widths() {
        sentence("==== 3: WIDTH 0: it is 0");
        define(0, "a:long");
        row(0, LONG, 0);
        packs("0100");
        for (int w = 1; w <= 8; w++) {
            sentence("==== 3: WIDTH, the least w so that w bytes tell it: " + w);
            define(0, "a:long");
            define(1, "a:box");
            long top = w == 8 ? Long.MAX_VALUE : (1L << 8 * w - 1) - 1;
            long[] some = {top, -top - 1, w == 1 ? 1 : (1L << 8 * w - 9),
                w == 1 ? -1 : -(1L << 8 * w - 9) - 1};
            for (long v : some) {
                row(0, LONG, v);
                packs("01" + String.format("%02x", w) + hexOf(v, w));
                due("w", x.mode(0, 0, 1), w);
                x.cut(0);
                due("pack", x.pack(1), 6 + w);
                framed(1, "01" + String.format("%02x", 0x60 + w) + hexOf(v, w));
            }
        }
        sentence("==== 3: bytes of a number, the highest first");
        define(0, "a:long");
        row(0, LONG, 0x0102030405060708L);
        packs("01" + "08" + "0102030405060708");
    }

    private void boxes() {
        sentence("==== 3: TAG, MISSING 0");
        define(0, "a:box");
        x.make(0, BOX, 1);
        packs("01" + "00");
        for (int kind = 0; kind < 8; kind++) {
            sentence("==== 3: TAG, 16 times (KIND and 1), and w: " + WORDS[kind]);
            define(0, "a:box[2]");
            x.make(0, BOX, 2);
            x.box(0, 0, kind, 0);
            x.box(0, 1, kind, 1);
            String one = kind == FLOAT ? "3f800000" : kind == DOUBLE ? "3ff0000000000000" : "01";
            packs("01" + String.format("%02x", 16 * (kind + 1))
                + String.format("%02x", 16 * (kind + 1) + one.length() / 2) + one);
        }
        sentence("==== 3: BOXES, one by one, each by its own WIDTH");
        define(0, "a:box[]");
        x.make(0, BOX, 4);
        x.box(0, 0, INT, 300);
        x.box(0, 1, INT, 1);
        x.box(0, 3, INT, 1);
        packs("01" + "04" + "52012c" + "5101" + "00" + "5101");
    }

    private void plan(int mode, int w, int d, int size) {
        due("MODE", x.mode(0, 0, 0), mode);
        due("w", x.mode(0, 0, 1), w);
        due("d", x.mode(0, 0, 2), d);
        due("bytes", x.mode(0, 0, 3), size);
    }

    private void modes() {
        sentence("==== 3: MODE 0 PLAIN, w the greatest WIDTH");
        define(0, "a:int[3]");
        row(0, INT, 1, 300, -1);
        packs("01" + "02" + "0001" + "012c" + "ffff");
        plan(0, 2, NO_SUCH, 7);
        sentence("==== 3: MODE 1 STEPS, w the WIDTH of the first, d of the steps");
        define(0, "a:int[4]");
        row(0, INT, 70000, 70001, 69999, 70003);
        packs("01" + "13" + "01" + "011170" + "01" + "fe" + "04");
        plan(1, 3, 1, 8);
        sentence("==== 3: MODE 1 STEPS, the first by no bytes, if it is 0");
        define(0, "a:int[4]");
        row(0, INT, 0, 100, 200, 300);
        packs("01" + "10" + "01" + "646464");
        plan(1, 0, 1, 5);
        sentence("==== 3: MODE 1 STEPS, steps of no bytes, if all are 0");
        define(0, "a:int[2]");
        row(0, INT, 300, 300);
        packs("01" + "12" + "00" + "012c");
        plan(1, 2, 0, 4);
        sentence("==== 3: MODE 1 STEPS, of two CELLS or more");
        define(0, "a:long");
        row(0, LONG, 1L << 60);
        plan(0, 8, NO_SUCH, 9);
        sentence("==== 3: a step is a long that wraps");
        define(0, "a:long[3]");
        row(0, LONG, Long.MAX_VALUE, Long.MIN_VALUE, Long.MAX_VALUE);
        packs("01" + "18" + "01" + "7fffffffffffffff" + "01" + "ff");
        row(0, LONG, Long.MIN_VALUE, Long.MIN_VALUE + 5, Long.MAX_VALUE);
        packs("01" + "18" + "01" + "8000000000000000" + "05" + "fa");
        sentence("==== 3: MODE 2 RUNS, of like ones behind each other, as long as can be");
        define(0, "a:int[16]");
        x.make(0, INT, 16);
        for (int i = 0; i < 16; i++) {
            x.write(0, i, INT, i < 15 ? -200 : 5);
        }
        packs("01" + "22" + "0f" + "ff38" + "01" + "0005");
        plan(2, 2, NO_SUCH, 7);
        sentence("==== 3: MODE 2 RUNS, a run of one at the begin, in the midst, at the end");
        define(0, "a:int[14]");
        row(0, INT, 9, 5, 5, 5, 5, 5, 70, 5, 5, 5, 5, 5, 5, 9);
        packs("01" + "21" + "0109" + "0505" + "0146" + "0605" + "0109");
        plan(2, 1, NO_SUCH, 11);
        sentence("==== 3: MODE 2 RUNS, like ones that aren't behind each other are two runs");
        define(0, "a:int[5]");
        row(0, INT, 9, 9, 70, 9, 9);
        plan(0, 1, NO_SUCH, 6);
        define(0, "a:int[10]");
        row(0, INT, 9, 9, 9, 9, 70, 70, 9, 9, 9, 9);
        packs("01" + "21" + "0409" + "0246" + "0409");
        plan(2, 1, NO_SUCH, 7);
        sentence("==== 3: all numbers 0: PLAIN of no bytes");
        define(0, "a:int[16]");
        x.make(0, INT, 16);
        packs("01" + "00");
        plan(0, 0, NO_SUCH, 1);
    }

    private void likeOnes() {
        sentence("==== 3: the MODE by which all this has the fewest bytes, of like ones the least:"
            + " PLAIN and STEPS");
        define(0, "a:int[2]");
        row(0, INT, 300, 301);
        packs("01" + "02" + "012c" + "012d");
        plan(0, 2, NO_SUCH, 5);
        sentence("... of like ones the least: PLAIN and RUNS");
        define(0, "a:int[4]");
        row(0, INT, 9, 9, 4, 4);
        packs("01" + "01" + "09090404");
        plan(0, 1, NO_SUCH, 5);
        sentence("... of like ones the least: STEPS and RUNS");
        define(0, "a:int[2]");
        row(0, INT, 300, 300);
        plan(1, 2, 0, 4);
        define(0, "a:int[4]");
        row(0, INT, 300, 300, 301, 301);
        plan(1, 2, 1, 7);
        sentence("... of like ones the least: all three");
        define(0, "a:int[2]");
        row(0, INT, 5, 5);
        packs("01" + "01" + "0505");
        plan(0, 1, NO_SUCH, 3);
        sentence("... the fewest bytes: STEPS by one byte fewer than PLAIN");
        define(0, "a:int[3]");
        row(0, INT, 300, 301, 302);
        plan(1, 2, 1, 6);
        sentence("... the fewest bytes: RUNS by one byte fewer than PLAIN");
        define(0, "a:int[5]");
        row(0, INT, 9, 9, 4, 4, 4);
        plan(2, 1, NO_SUCH, 5);
        sentence("... the fewest bytes: RUNS by one byte fewer than STEPS");
        define(0, "a:int[5]");
        row(0, INT, 300, 300, 301, 301, 301);
        packs("01" + "22" + "02012c" + "03012d");
        plan(2, 2, NO_SUCH, 7);
    }

    private void refusals() {
        sentence("==== 3: NEEDED, it is NEEDED, and its SLOT holds NOTHING (CELL 0)");
        define(0, "a:int;b:int[3]!");
        refuses(1, 0, NEEDED);
        row(1, INT, 1, 2, 3);
        due("pack", x.pack(0), 9);
        sentence("==== 3: a FIELD that is NEEDED, whose ROW has no CELLS, is there");
        define(0, "a:int[]!");
        x.make(0, INT, 0);
        packs("01" + "00");
        sentence("==== 3: KIND, a THING (0)");
        define(0, "b:int=1;a:int[5]");
        x.thing(0, 1);
        refuses(1, 0, KIND);
        define(0, "a:box[5]!");
        refuses(0, 0, KIND);
        sentence("==== 3: COUNT, the ROW has another number of CELLS (that)");
        define(0, "a:int[5]");
        for (int n = 0; n <= 16; n++) {
            x.make(0, INT, n);
            if (n == 5) {
                packs("01" + "00");
            } else {
                refuses(0, n, COUNT);
            }
        }
        sentence("==== 3: COUNT, without brackets there is one CELL");
        define(0, "a:box");
        x.make(0, BOX, 0);
        refuses(0, 0, COUNT);
        x.make(0, BOX, 2);
        refuses(0, 2, COUNT);
        sentence("==== 3: COUNT, ahead of what refuses a CELL");
        define(0, "a:int[2]");
        row(0, LONG, 1, 2, 3);
        refuses(0, 3, COUNT);
        x.make(0, BOX, 3);
        refuses(0, 3, COUNT);
        sentence("==== 3: what refuses a CELL, the first such one");
        define(0, "b:int=1;a:int[2]");
        row(0, LONG, 1, 2);
        refuses(1, 0, KIND);
        x.make(0, BOX, 2);
        x.box(0, 0, INT, 1);
        x.box(0, 1, INT, 1);
        refuses(1, 0, KIND);
        sentence("==== 3: no CELL refuses, where there is none");
        define(0, "a:bit[]");
        x.make(0, LONG, 0);
        packs("01" + "00");
        x.make(0, BOX, 0);
        packs("01" + "00");
        sentence("==== 3: the first, FIELD by FIELD");
        define(0, "c:int;b:int!;a:int");
        x.thing(0, 1);
        refuses(1, 0, NEEDED);
        x.make(2, INT, 2);
        refuses(0, 2, COUNT);
        row(2, DOUBLE, 1);
        refuses(0, 0, KIND);
        x.make(2, INT, 1);
        x.make(1, INT, 1);
        refuses(2, 0, KIND);
    }

    private void answers() {
        sentence("18: NONE, version (0 .. 5)");
        define(0, "a:int");
        define(5, "a:int");
        due("pack", x.pack(0), 5);
        due("pack", x.pack(5), 5);
        due("pack", x.pack(-1), NONE);
        due("pack", x.pack(6), NONE);
        for (int far : FAR) {
            due("pack", x.pack(far), NONE);
        }
        due("wire", x.wire(-1), 10);
        sentence("18: STATE, it isn't there");
        for (int v = 0; v < 6; v++) {
            due("pack", x.pack(v), STATE);
        }
        due("stop", x.stop(0), STATE);
        sentence("18: a FRAME comes behind THE WIRE's bytes");
        define(4, "a:byte");
        row(0, BYTE, 5);
        due("pack", x.pack(4), 7);
        row(0, BYTE, 6);
        due("pack", x.pack(4), 7);
        wire("0403010105" + digestOf("0403010105") + "0403010106" + digestOf("0403010106"));
        sentence("18: ... behind THE WIRE's bytes, whatever they are");
        define(4, "a:byte");
        due("pack", x.pack(4), 5);
        x.cut(2);
        x.poke(1, 255);
        due("pack", x.pack(4), 5);
        wire("04ff" + "040100" + digestOf("040100"));
        sentence("==== 4: z is 7, 31 z and the byte (0 .. 255; an int that wraps)");
        define(0, "a:long;b:long");
        row(0, LONG, -1);
        row(1, LONG, 0x8182838485868788L);
        packs("03" + "01ff" + "08" + "8182838485868788");
        check.due("the lowest 16 bits, as two bytes", Check.hex(x, 14, 16),
            digestOf("000c0301ff088182838485868788"));
    }

    /** Makes the ROWS and the VERSION 0 by which a BODY has 243 + missing bytes. */
    private void big(int missing) {
        define(0, "a:long[16];b:long[14];c:box[]");
        row(0, LONG, wild(16));
        row(1, LONG, wild(14));
        x.make(2, BOX, missing - 1);
    }

    private void full() {
        sentence("==== 4: LENGTH, 250 at most");
        big(7);
        due("pack", x.pack(0), 254);
        due("LENGTH", x.wire(1), 250);
        due("frame", x.frame(0, 0), 0);
        sentence("18: FULL, its BODY is above 250");
        big(8);
        due("pack", x.pack(0), FULL);
        due("wire", x.wire(-1), 0);
        due("count", x.count(8), 0);
        due("no STOP", x.stop(0), STATE);
        sentence("18: FULL, a BODY far above 250");
        define(0, "a:long[];b:long[];c:long[];d:long[];e:long[];f:long[];g:long[];h:box[]");
        row(0, LONG, wild(16));
        for (int s = 1; s < 7; s++) {
            x.same(s, 0);
        }
        x.make(7, BOX, 16);
        for (int i = 0; i < 16; i++) {
            x.box(7, i, LONG, Long.MAX_VALUE);
        }
        due("pack", x.pack(0), FULL);
        due("bytes", x.bytes(0), FULL);
        sentence("==== 4: THE WIRE holds 0 .. 500 bytes");
        big(3);
        due("pack", x.pack(0), 250);
        due("pack", x.pack(0), 250);
        due("wire", x.wire(-1), 500);
        due("scan", x.scan(0), 2);
        due("full", x.pack(0), FULL);
        define(1, "h:bit");
        due("the least FRAME", x.pack(1), FULL);
        sentence("18: FULL, THE WIRE has no room: one byte too few");
        big(3);
        define(1, "h:bit");
        x.pack(0);
        x.pack(0);
        x.cut(496);
        due("pack", x.pack(1), FULL);
        due("wire", x.wire(-1), 496);
        x.cut(495);
        due("pack", x.pack(1), 5);
        due("wire", x.wire(-1), 500);
        due("the last byte", x.wire(499) >= 0 ? 1 : 0, 1);
        due("none behind", x.wire(500), NONE);
        sentence("18: REFUSED is named ahead of FULL");
        big(8);
        define(1, "a:long[16];b:long[14];c:box[];d:int!");
        due("pack", x.pack(0), FULL);
        due("pack", x.pack(1), REFUSED);
        stopped(1, 3, 0, NEEDED);
        sentence("18: FULL leaves THE STOP");
        define(1, "d:int!");
        due("pack", x.pack(1), REFUSED);
        big(8);
        due("pack", x.pack(0), FULL);
        stopped(1, 0, 0, NEEDED);
    }

    private void refusedStays() {
        sentence("18: what is answered so changes nothing but THE STOP");
        define(2, "d:int!");
        usual();
        String before = state();
        due("pack", x.pack(6), NONE);
        due("pack", x.pack(5), STATE);
        due("pack", x.pack(2), REFUSED);
        check.due("state", state(), before);
        due("count", x.count(8), 1);
        sentence("18: pack() changes THE WIRE alone");
        usual();
        long digest = x.digest(-1);
        due("pack", x.pack(0) > 0 ? 1 : 0, 1);
        due("digest", x.digest(-1), digest);
        due("no STOP", x.stop(0), STATE);
        due("count", x.count(8), 2);
    }

    private void all() {
        present();
        counts();
        asRead();
        widths();
        boxes();
        modes();
        likeOnes();
        refusals();
        answers();
        full();
        refusedStays();
        check.end();
    }

    public static void main(String[] args) {
        new EdgesOfPackingTest().all();
    }
}
