/** The boundary cases of promises 25 to 33 and of the terms under ==== 5: what is in thought. */
public final class EdgesOfThoughtTest extends Scene {
    private EdgesOfThoughtTest() {
    }

    /** SLOTS a, b, c and VERSION 0, by which a BODY has 243 + missing bytes. */
    private void big(int missing) {
        define(0, "a:long[16];b:long[14];c:box[]");
        row(0, LONG, wild(16));
        row(1, LONG, wild(14));
        x.make(2, BOX, missing - 1);
    }

    private void bytes() {
        sentence("25: NONE, version (0 .. 5)");
        define(0, "a:int");
        define(5, "a:int");
        due("bytes", x.bytes(0), 5);
        due("bytes", x.bytes(5), 5);
        due("bytes", x.bytes(-1), NONE);
        due("bytes", x.bytes(6), NONE);
        for (int far : FAR) {
            due("bytes", x.bytes(far), NONE);
        }
        sentence("25: STATE, it isn't there");
        for (int v = 0; v < 6; v++) {
            due("bytes", x.bytes(v), STATE);
        }
        sentence("25: REFUSED, by each that refuses; THE STOP stays");
        define(0, "a:int!");
        define(1, "b:int");
        define(2, "c:int");
        define(3, "d:int");
        x.thing(1, 1);
        x.make(2, INT, 2);
        x.make(3, BOX, 1);
        for (int v = 0; v < 4; v++) {
            due("bytes", x.bytes(v), REFUSED);
        }
        due("no STOP", x.stop(0), STATE);
        sentence("25: FULL, its BODY is above 250");
        big(7);
        due("bytes", x.bytes(0), 254);
        big(8);
        due("bytes", x.bytes(0), FULL);
        sentence("25: REFUSED is named ahead of FULL");
        big(8);
        define(1, "a:long[16];b:long[14];c:box[];d:int!");
        due("bytes", x.bytes(1), REFUSED);
        sentence("==== 5: BYTES, how many its FRAME would have, though THE WIRE has no room");
        big(3);
        x.pack(0);
        x.pack(0);
        due("pack", x.pack(0), FULL);
        due("bytes", x.bytes(0), 250);
        due("wire", x.wire(-1), 500);
    }

    private void modeNone() {
        sentence("26: NONE, version (0 .. 5)");
        define(0, "a:int");
        define(5, "a:int");
        row(0, INT, 5);
        due("mode", x.mode(0, 0, 1), 1);
        due("mode", x.mode(5, 0, 1), 1);
        due("mode", x.mode(-1, 0, 1), NONE);
        due("mode", x.mode(6, 0, 1), NONE);
        for (int far : FAR) {
            due("mode", x.mode(far, 0, 1), NONE);
        }
        sentence("26: NONE, k (0 .. 7), ahead of STATE");
        due("mode", x.mode(0, 7, 0), STATE);
        due("mode", x.mode(0, 8, 0), NONE);
        due("mode", x.mode(0, -1, 0), NONE);
        for (int far : FAR) {
            due("mode", x.mode(0, far, 0), NONE);
        }
        sentence("26: NONE, what (0 .. 3), ahead of STATE");
        due("mode", x.mode(0, 0, 3), STATE);
        due("mode", x.mode(0, 0, 4), NONE);
        due("mode", x.mode(0, 0, -1), NONE);
        for (int far : FAR) {
            due("mode", x.mode(0, 0, far), NONE);
        }
        sentence("26: STATE, it isn't there, ahead of NONE, it has no FIELD k");
        for (int v = 0; v < 6; v++) {
            due("mode", x.mode(v, 7, 0), STATE);
        }
        sentence("26: NONE, it has no FIELD k");
        define(0, "a:int");
        row(0, INT, 5);
        due("mode", x.mode(0, 0, 0), 0);
        due("mode", x.mode(0, 1, 0), NONE);
        due("mode", x.mode(0, 7, 0), NONE);
        define(0, "h:bit;g:bit;f:bit;e:bit;d:bit;c:bit;b:bit;a:int");
        due("mode", x.mode(0, 7, 0), 0);
        due("mode", x.mode(0, 7, 1), 1);
    }

    private void modeNoSuch() {
        sentence("26: -5, its KIND is box, ahead of what refuses it");
        define(0, "a:box;b:box!");
        row(0, INT, 5);
        due("mode", x.mode(0, 0, 0), NO_SUCH);
        x.thing(0, 1);
        due("of a thing", x.mode(0, 0, 0), NO_SUCH);
        x.make(0, INT, 3);
        due("of another number", x.mode(0, 0, 0), NO_SUCH);
        due("of nothing", x.mode(0, 1, 0), NO_SUCH);
        sentence("26: -5, its SLOT holds NOTHING, NEEDED or not");
        define(0, "a:int;b:int!;c:int=5");
        for (int k = 0; k < 3; k++) {
            for (int what = 0; what < 4; what++) {
                due("mode", x.mode(0, k, what), NO_SUCH);
            }
        }
        sentence("26: -5, a ROW without CELLS, ahead of COUNT and KIND");
        define(0, "a:int[];b:int[2];c:int");
        x.make(0, INT, 0);
        x.make(1, INT, 0);
        x.make(2, BOX, 0);
        for (int k = 0; k < 3; k++) {
            due("mode", x.mode(0, k, 0), NO_SUCH);
        }
        sentence("26: then what refuses it, KIND: a THING");
        define(0, "a:int[];b:int!");
        x.thing(0, 1);
        x.thing(1, 1);
        for (int what = 0; what < 4; what++) {
            due("mode", x.mode(0, 0, what), KIND);
            due("mode", x.mode(0, 1, what), KIND);
        }
        sentence("26: then what refuses it, COUNT, ahead of a CELL's");
        define(0, "a:int[2];b:int");
        x.make(0, INT, 3);
        x.make(1, BOX, 2);
        due("mode", x.mode(0, 0, 0), COUNT);
        due("mode", x.mode(0, 1, 0), COUNT);
        sentence("26: then what refuses it, a CELL's");
        define(0, "a:int[2];b:int");
        x.make(0, LONG, 2);
        x.make(1, BOX, 1);
        x.box(1, 0, INT, 5);
        due("mode", x.mode(0, 0, 0), KIND);
        due("mode", x.mode(0, 1, 0), KIND);
        sentence("26: whether one ahead is REFUSED or not");
        define(0, "a:int!;b:int;c:int;d:int");
        x.thing(1, 1);
        x.make(2, INT, 2);
        row(3, INT, 300);
        due("bytes", x.bytes(0), REFUSED);
        due("mode", x.mode(0, 3, 0), 0);
        due("mode", x.mode(0, 3, 1), 2);
        due("mode", x.mode(0, 3, 3), 3);
        sentence("26: ... or the BODY above 250 or not");
        big(8);
        due("bytes", x.bytes(0), FULL);
        due("mode", x.mode(0, 1, 3), 113);
        sentence("26: 2 d (-5: no STEPS)");
        define(0, "a:int[3]");
        row(0, INT, 1, 2, 300);
        due("PLAIN", x.mode(0, 0, 0) * 100 + x.mode(0, 0, 2), NO_SUCH);
        row(0, INT, 300, 301, 302);
        due("STEPS", x.mode(0, 0, 0) * 100 + x.mode(0, 0, 2), 101);
        row(0, INT, 300, 300, 300);
        due("STEPS", x.mode(0, 0, 0) * 100 + x.mode(0, 0, 2), 100);
        define(0, "a:int[9]");
        row(0, INT, 1, 1, 1, 1, 1, 500, 500, 500, 500);
        due("RUNS", x.mode(0, 0, 0) * 100 + x.mode(0, 0, 2), 200 + NO_SUCH);
        sentence("26: 3 how many bytes it has, from HEAD on: not the byte of []");
        define(0, "a:int[];b:int[2]");
        row(0, INT, 1, 300);
        row(1, INT, 1, 300);
        due("mode", x.mode(0, 0, 3), 5);
        due("mode", x.mode(0, 1, 3), 5);
        due("bytes", x.bytes(0), 4 + 1 + 1 + 5 + 5);
    }

    private void smallest() {
        sentence("27: -5, there is none: no VERSION");
        due("smallest", x.smallest(), NO_SUCH);
        sentence("27: -5, there is none: all REFUSED");
        define(0, "a:int!");
        define(5, "b:int");
        x.thing(1, 1);
        due("smallest", x.smallest(), NO_SUCH);
        due("no STOP", x.stop(0), STATE);
        sentence("27: -5, there is none: the BODY too long");
        big(8);
        due("smallest", x.smallest(), NO_SUCH);
        sentence("==== 5: SMALLEST, a BODY of 250 is not too long");
        big(7);
        due("smallest", x.smallest(), 0);
        sentence("==== 5: SMALLEST, the fewest bytes, first and last");
        define(0, "a:int");
        define(5, "b:bit");
        row(0, INT, 5);
        due("smallest", x.smallest(), 5);
        define(5, "a:int");
        define(0, "b:bit");
        due("smallest", x.smallest(), 0);
        sentence("==== 5: SMALLEST, of like ones the least");
        for (int v = 5; v >= 0; v--) {
            define(v, "a:int");
            due("smallest", x.smallest(), v);
        }
        x.drop(0);
        due("smallest", x.smallest(), 1);
        sentence("==== 5: SMALLEST, of all by which it is not REFUSED, nor the BODY too long");
        define(0, "a:int!");
        define(1, "b:int[]");
        define(2, "c:long[16];d:long[16]");
        define(3, "b:int[1]");
        row(1, INT, 5);
        row(2, LONG, wild(16));
        x.same(3, 2);
        due("smallest", x.smallest(), 3);
        x.drop(3);
        due("smallest", x.smallest(), 1);
        x.drop(1);
        due("smallest", x.smallest(), NO_SUCH);
    }

    private void scan() {
        sentence("28: NONE, what (0 .. 2)");
        due("scan", x.scan(-1), NONE);
        due("scan", x.scan(3), NONE);
        for (int far : FAR) {
            due("scan", x.scan(far), NONE);
        }
        sentence("==== 5: SCAN, an empty WIRE");
        scanned(0, 0, 0);
        define(0, "a:bit");
        scanned(0, 0, 0);
        sentence("==== 5: SCAN, till THE WIRE's end");
        define(0, "a:bit");
        for (int n = 1; n <= 100; n++) {
            x.pack(0);
        }
        scanned(100, 500, 0);
        due("the WIRE is full", x.pack(0), FULL);
        sentence("==== 5: SCAN, the first is LOST");
        define(0, "a:bit");
        x.pack(0);
        x.pack(0);
        x.poke(3, x.wire(3) ^ 1);
        scanned(0, 0, 3);
        x.poke(0, 9);
        scanned(0, 0, 1);
        sentence("==== 5: SCAN, till the first that is LOST, though others follow");
        define(0, "a:bit");
        for (int n = 0; n < 4; n++) {
            x.pack(0);
        }
        x.poke(14, x.wire(14) ^ 1);
        scanned(2, 10, 3);
        x.poke(11, 255);
        scanned(2, 10, 2);
        sentence("==== 5: SCAN, of the last one bytes are cut");
        define(0, "a:bit");
        x.pack(0);
        x.pack(0);
        for (int n = 9; n > 5; n--) {
            x.cut(n);
            scanned(1, 5, 2);
        }
        x.cut(5);
        scanned(1, 5, 0);
        sentence("==== 5: SCAN, FAULTS of a BODY, too; THE STOP stays, nothing is LOST by load()");
        define(0, "a:byte");
        x.pack(0);
        define(0, "a:byte!");
        scanned(0, 0, 4);
        due("no STOP", x.stop(0), STATE);
        due("count", x.count(10), 0);
        define(0, "h:bit;a:byte");
        scanned(1, 5, 0);
    }

    private void scanned(int frames, int place, int fault) {
        due("scan 0", x.scan(0), frames);
        due("scan 1", x.scan(1), place);
        due("scan 2", x.scan(2), fault);
    }

    private void found() {
        sentence("29: NONE, place (one of THE WIRE)");
        due("of an empty WIRE", x.found(0), NONE);
        define(0, "a:bit");
        x.pack(0);
        due("found", x.found(0), 0);
        due("found", x.found(4), NO_SUCH);
        due("found", x.found(5), NONE);
        due("found", x.found(-1), NONE);
        for (int far : new int[] {LOW, -2, 499, 500, HIGH}) {
            due("found", x.found(far), NONE);
        }
        sentence("==== 5: FOUND, from a place on: the place itself, the first of several");
        define(0, "a:bit");
        for (int n = 0; n < 3; n++) {
            x.pack(0);
        }
        due("found", x.found(0), 0);
        due("found", x.found(1), 5);
        due("found", x.found(5), 5);
        due("found", x.found(6), 10);
        due("found", x.found(10), 10);
        due("found", x.found(11), NO_SUCH);
        sentence("29: -5, there is none");
        define(0, "a:bit");
        x.pack(0);
        x.poke(4, x.wire(4) ^ 1);
        due("found", x.found(0), NO_SUCH);
        sentence("29: -5, there is none: of a full WIRE");
        define(0, "a:bit");
        for (int n = 0; n < 100; n++) {
            x.pack(0);
        }
        due("found", x.found(495), 495);
        due("found", x.found(496), NO_SUCH);
        due("found", x.found(499), NO_SUCH);
        x.drop(0);
        due("found", x.found(0), NO_SUCH);
        sentence("==== 5: FOUND, behind bytes that are none, at THE WIRE's very end");
        define(0, "a:bit");
        x.pack(0);
        int[] frame = new int[5];
        for (int i = 0; i < 5; i++) {
            frame[i] = x.wire(i);
        }
        int[] all = new int[40];
        java.util.Arrays.fill(all, 255);
        System.arraycopy(frame, 0, all, 35, 5);
        Check.fill(x, all);
        due("found", x.found(0), 35);
        due("found", x.found(35), 35);
        due("found", x.found(36), NO_SUCH);
        x.cut(39);
        due("found", x.found(0), NO_SUCH);
        sentence("==== 5: FOUND, one that begins in the midst of another one");
        define(0, "a:box[2]");
        define(1, "b:bit");
        x.make(0, BOX, 2);
        x.pack(1);
        long inner = 0;
        for (int i = 0; i < 5; i++) {
            inner = inner << 8 | x.wire(i);
        }
        x.cut(0);
        x.box(0, 0, LONG, inner);
        x.pack(0);
        due("the tag ahead", x.wire(3), 0x65);
        due("found", x.found(0), 0);
        due("found", x.found(1), 4);
        x.poke(2, 2);
        due("found", x.found(0), 4);
    }

    private void fits(int want, String writer, String... readers) {
        for (String reader : readers) {
            x = new RowMarshal();
            define(0, writer);
            define(1, reader);
            due("fit " + writer + " to " + reader, x.fit(0, 1, 0), want);
        }
    }

    private void fitNone() {
        sentence("30: NONE, versions (0 .. 5)");
        define(0, "a:int");
        define(5, "a:int");
        due("fit", x.fit(0, 5, 0), 0);
        due("fit", x.fit(5, 0, 0), 0);
        due("fit", x.fit(5, 5, 0), 0);
        for (int bad : new int[] {-1, 6, LOW, HIGH}) {
            due("fit", x.fit(bad, 0, 0), NONE);
            due("fit", x.fit(0, bad, 0), NONE);
            due("fit", x.fit(3, bad, 0), NONE);
            due("fit", x.fit(bad, 3, 0), NONE);
        }
        sentence("30: NONE, k (0 .. 7), ahead of STATE");
        due("fit", x.fit(0, 1, 7), STATE);
        due("fit", x.fit(0, 1, 8), NONE);
        due("fit", x.fit(0, 1, -1), NONE);
        for (int far : FAR) {
            due("fit", x.fit(0, 1, far), NONE);
        }
        sentence("30: STATE, either isn't there, ahead of NONE, the READER has no FIELD k");
        define(0, "a:int");
        due("fit", x.fit(0, 1, 7), STATE);
        due("fit", x.fit(1, 0, 7), STATE);
        due("fit", x.fit(1, 0, 0), STATE);
        due("fit", x.fit(1, 2, 0), STATE);
        sentence("30: NONE, the READER has no FIELD k, though the WRITER has one");
        define(0, "a:int;b:int;c:int");
        define(1, "a:int;b:int");
        due("fit", x.fit(0, 1, 1), 0);
        due("fit", x.fit(0, 1, 2), NONE);
        due("fit", x.fit(1, 0, 2), 4);
        due("fit", x.fit(1, 0, 3), NONE);
        due("fit", x.fit(0, 1, 7), NONE);
    }

    private void fit() {
        sentence("==== 5, FIT: the WRITER has none of that letter");
        fits(5, "a:int", "b:int!", "b:int=5!", "b:box!", "b:int[]!");
        fits(3, "a:int", "b:int=5", "b:int=0", "b:int[]=5");
        fits(4, "a:int", "b:int", "b:box", "b:int[]");
        sentence("==== 5, FIT: 5, if both have a number of CELLS, and not the same");
        fits(5, "a:int[2]", "a:int", "a:int[3]", "a:int[16]", "a:box[3]", "a:long[3]", "a:byte!");
        fits(5, "a:box", "a:box[2]", "a:int[2]");
        fits(0, "a:int[2]", "a:int[2]", "a:int[]", "a:int[]=5", "a:int[2]=5");
        sentence("==== 5, FIT: 5, numbers' KINDS that don't WIDEN, and not both are 1 .. 5;"
            + " 2, if both are; 1, if they are unlike; 0 else");
        for (int from = 0; from < 8; from++) {
            for (int to = 0; to < 8; to++) {
                boolean whole = from >= BYTE && from <= LONG && to >= BYTE && to <= LONG;
                int want = from == to ? 0 : widens(from, to) ? 1 : whole ? 2 : 5;
                fits(want, "a:" + WORDS[from], "a:" + WORDS[to], "a:" + WORDS[to] + "[]");
                fits(want == 5 ? 5 : 2, "a:" + WORDS[from], "a:" + WORDS[to] + "!");
            }
        }
        sentence("==== 5, FIT: 2, if the READER has a number of CELLS, and the WRITER []");
        fits(2, "a:int[]", "a:int", "a:int[16]", "a:long[2]", "a:box[2]", "a:byte");
        fits(0, "a:int[]", "a:int[]");
        fits(1, "a:int[]", "a:long[]");
        sentence("==== 5, FIT: 2, the READER's is NEEDED, the WRITER's not");
        fits(2, "a:int", "a:int!", "a:int=5!", "a:long!");
        fits(2, "a:int=5", "a:int!");
        fits(0, "a:int!", "a:int!", "a:int", "a:int=5");
        fits(1, "a:int!", "a:long!");
        sentence("==== 5, FIT: 2, the WRITER's is box, the READER's not");
        for (int kind = 0; kind < 8; kind++) {
            fits(2, "a:box", "a:" + WORDS[kind], "a:" + WORDS[kind] + "[]");
            fits(1, "a:" + WORDS[kind], "a:box", "a:box[]");
        }
        fits(0, "a:box", "a:box", "a:box[]");
        fits(2, "a:box", "a:box!");
        fits(2, "a:box[]", "a:box");
        sentence("==== 5, FIT: the FIELD of the same letter, wherever it stands");
        define(0, "a:bit;b:int");
        define(1, "b:long;a:bit");
        due("fit", x.fit(0, 1, 0), 1);
        due("fit", x.fit(0, 1, 1), 0);
        due("fit", x.fit(1, 0, 1), 2);
        due("fit of one by itself", x.fit(0, 0, 1), 0);
    }

    private void tripAnswers() {
        sentence("31: NONE, versions (0 .. 5), ahead of STATE");
        define(0, "a:int");
        define(5, "a:int");
        due("trip", x.trip(0, 5), 0);
        due("trip", x.trip(5, 0), 0);
        for (int bad : new int[] {-1, 6, LOW, HIGH}) {
            due("trip", x.trip(bad, 0), NONE);
            due("trip", x.trip(0, bad), NONE);
            due("trip", x.trip(3, bad), NONE);
            due("trip", x.trip(bad, 3), NONE);
        }
        sentence("31: STATE, either isn't there, ahead of REFUSED");
        define(0, "a:int!");
        due("trip", x.trip(0, 1), STATE);
        due("trip", x.trip(1, 0), STATE);
        due("trip", x.trip(1, 2), STATE);
        due("trip", x.trip(0, 0), REFUSED);
        sentence("31: REFUSED, by the WRITER: NEEDED, KIND, COUNT, a CELL");
        define(0, "a:int!");
        define(1, "h:bit");
        due("trip", x.trip(0, 1), REFUSED);
        x.thing(0, 1);
        due("trip", x.trip(0, 1), REFUSED);
        x.make(0, INT, 2);
        due("trip", x.trip(0, 1), REFUSED);
        x.make(0, LONG, 1);
        due("trip", x.trip(0, 1), REFUSED);
        x.make(0, INT, 1);
        due("trip", x.trip(0, 1), 1);
        due("no STOP", x.stop(0), STATE);
        sentence("31: REFUSED, by the READER: COUNT, GAP, KIND, RANGE, NEEDED");
        define(0, "a:box[2]");
        define(1, "a:box[3]");
        define(2, "a:byte[2]");
        define(3, "b:int!");
        x.make(0, BOX, 2);
        x.box(0, 0, INT, 500);
        due("COUNT", x.trip(0, 1), REFUSED);
        due("NEEDED", x.trip(0, 3), REFUSED);
        due("KIND", x.trip(0, 2), REFUSED);
        x.lax(1);
        due("RANGE", x.trip(0, 2), REFUSED);
        x.box(0, 0, INT, 100);
        due("GAP", x.trip(0, 2), REFUSED);
        x.box(0, 1, BYTE, 5);
        due("trip", x.trip(0, 2), 2);
        x.lax(0);
        due("KIND", x.trip(0, 2), REFUSED);
        due("no STOP", x.stop(0), STATE);
        sentence("31: FULL, the BODY is above 250");
        big(7);
        due("trip", x.trip(0, 0), 16 + 14 + 6);
        big(8);
        due("trip", x.trip(0, 0), FULL);
        sentence("31: FULL, the longest BODY there can be, of which the READER refuses nothing");
        define(0, "a:box[];b:box[];c:box[];d:box[];e:box[];f:box[];g:box[];h:box[]");
        define(1, "h:long[]");
        x.make(0, BOX, 16);
        for (int i = 0; i < 16; i++) {
            x.box(0, i, LONG, Long.MAX_VALUE);
        }
        for (int s = 1; s < 8; s++) {
            x.same(s, 0);
        }
        due("trip", x.trip(0, 0), FULL);
        due("trip", x.trip(0, 1), FULL);
        x.box(0, 15, BOX, 0);
        due("the last CELL refuses", x.trip(0, 1), REFUSED);
        due("trip", x.trip(0, 0), FULL);
        sentence("31: REFUSED is named ahead of FULL: by the WRITER, by the READER");
        big(8);
        define(1, "a:long[16];b:long[14];c:box[];d:int!");
        define(2, "a:int[16]");
        due("trip", x.trip(1, 0), REFUSED);
        due("trip", x.trip(0, 2), REFUSED);
    }

    private void trip() {
        sentence("==== 5, TRIP: of all SLOTS: none");
        define(0, "a:int");
        due("trip", x.trip(0, 0), 0);
        x.thing(3, 1);
        x.make(4, INT, 0);
        due("a THING, a ROW of no CELLS", x.trip(0, 0), 0);
        sentence("==== 5, TRIP: of all SLOTS, those of no FIELD, too; each, that holds the same");
        define(0, "a:box[16]");
        for (int s = 0; s < 8; s++) {
            x.make(s, BOX, 16);
            due("trip", x.trip(0, 0), 16 * (s + 1));
        }
        due("trip", x.trip(0, 0), 128);
        for (int s = 1; s < 8; s++) {
            x.same(s, 0);
        }
        due("trip", x.trip(0, 0), 128);
        sentence("==== 5, TRIP: what becomes NOTHING has none");
        define(0, "a:int");
        define(1, "a:int;b:int[]");
        row(0, INT, 5);
        row(1, INT, 5, 6, 7);
        due("trip", x.trip(0, 0), 4);
        due("trip", x.trip(0, 1), 1);
        sentence("==== 5, TRIP: what was NOTHING has none, though a DEFAULT comes");
        define(0, "a:int");
        define(1, "b:int[4]=5");
        row(0, INT, 5);
        due("trip", x.trip(0, 1), 1);
        x.thing(1, 1);
        due("trip", x.trip(0, 1), 1);
        sentence("==== 5, TRIP: the same CELL: a DEFAULT of more CELLS, of fewer");
        define(0, "a:int");
        define(1, "b:int[4]=5");
        row(1, LONG, 5, 4);
        due("trip", x.trip(0, 1), 1);
        row(1, INT, 5, 5, 5, 5, 5, 5);
        due("trip", x.trip(0, 1), 4);
        row(1, DOUBLE, 4, 5, 4, 5, 5);
        due("trip", x.trip(0, 1), 2);
        define(1, "b:int[]=5");
        due("of none", x.trip(0, 1), 0);
        sentence("==== 5, TRIP: ALIKE, though KINDS are unlike: a nearest one isn't");
        define(0, "a:int[2]");
        define(1, "a:float[2]");
        row(0, INT, 16777216, 16777217);
        due("trip", x.trip(0, 1), 1);
        define(1, "a:double[2]");
        due("trip", x.trip(0, 1), 2);
        sentence("==== 5, TRIP: PACKED by a wider KIND, TAKEN by a narrower one");
        define(0, "a:float[2]");
        define(1, "a:double[2]");
        row(0, INT, 16777216, 16777217);
        due("trip", x.trip(0, 1), 1);
        sentence("==== 5, TRIP: MISSING ones and bits come back");
        define(0, "a:box[3];b:bit[2]");
        define(1, "b:box[2];a:box[3]");
        x.make(0, BOX, 3);
        x.box(0, 1, BIT, 1);
        row(1, BIT, 1, 0);
        due("trip", x.trip(0, 1), 5);
        sentence("==== 5: in thought nothing changes");
        usual();
        String before = state();
        String stops = stopAndTallies();
        due("trip", x.trip(0, 0), 3 + 2 + 3 + 1);
        due("trip", x.trip(0, 1), 3 + 2 + 3);
        due("trip", x.trip(1, 0), 3 + 1);
        x.bytes(0);
        x.mode(0, 0, 0);
        x.smallest();
        x.scan(0);
        x.found(1);
        x.fit(0, 1, 0);
        x.alike(0, 1);
        x.digest(0);
        check.due("state", state(), before);
        check.due("stop and tallies", stopAndTallies(), stops);
    }

    private void alikeAnswers() {
        sentence("32: NONE, SLOTS, ahead of NOTHING and KIND");
        row(0, INT, 5);
        row(7, INT, 5);
        due("alike", x.alike(0, 7), NO_SUCH);
        for (int bad : new int[] {-1, 8, LOW, HIGH}) {
            due("alike", x.alike(0, bad), NONE);
            due("alike", x.alike(bad, 0), NONE);
            due("alike", x.alike(3, bad), NONE);
            due("alike", x.alike(bad, 3), NONE);
        }
        sentence("32: NOTHING, either, ahead of KIND");
        row(0, INT, 5);
        x.thing(1, 1);
        due("alike", x.alike(0, 3), NOTHING);
        due("alike", x.alike(3, 0), NOTHING);
        due("alike", x.alike(3, 3), NOTHING);
        due("alike", x.alike(1, 3), NOTHING);
        due("alike", x.alike(3, 1), NOTHING);
        sentence("32: KIND, either is a THING");
        row(0, INT, 5);
        x.thing(1, 1);
        due("alike", x.alike(0, 1), KIND);
        due("alike", x.alike(1, 0), KIND);
        due("alike", x.alike(1, 1), KIND);
        sentence("32: the first CELL that one of them hasn't");
        row(0, INT, 5, 6);
        row(1, INT, 5, 6, 7);
        x.make(2, INT, 0);
        due("alike", x.alike(0, 1), 2);
        due("alike", x.alike(1, 0), 2);
        due("alike", x.alike(2, 0), 0);
        due("alike", x.alike(0, 2), 0);
        sentence("32: -5, all are, and as many: none of each");
        x.make(0, INT, 0);
        x.make(1, BOX, 0);
        due("alike", x.alike(0, 1), NO_SUCH);
        sentence("32: the first CELL in which they aren't, ahead of one that one hasn't");
        x.make(0, INT, 16);
        x.make(1, INT, 16);
        x.make(2, INT, 15);
        due("alike", x.alike(0, 1), NO_SUCH);
        due("alike", x.alike(0, 2), 15);
        for (int i = 15; i >= 0; i--) {
            x.write(1, i, INT, 1);
            due("alike", x.alike(0, 1), i);
            due("alike", x.alike(1, 2), i);
        }
        sentence("32: the very same ROW");
        x.make(0, BOX, 3);
        x.box(0, 1, DOUBLE, 5);
        x.same(1, 0);
        due("alike", x.alike(0, 1), NO_SUCH);
        due("alike", x.alike(0, 0), NO_SUCH);
    }

    /** Whether one BOX each, by kinds and longs, are ALIKE, either way round. */
    private void pair(int kind, long v, int otherKind, long other, boolean alike) {
        x = new RowMarshal();
        x.make(0, BOX, 1);
        x.make(1, BOX, 1);
        x.box(0, 0, kind, v);
        x.box(1, 0, otherKind, other);
        String call = "alike " + WORDS[kind] + " " + v + ", " + WORDS[otherKind] + " " + other;
        due(call, x.alike(0, 1), alike ? NO_SUCH : 0);
        due(call, x.alike(1, 0), alike ? NO_SUCH : 0);
        if (kind < BOX) {
            row(0, kind, v);
            due("the same of numbers: " + call, x.alike(0, 1), alike ? NO_SUCH : 0);
        }
    }

    private void alike() {
        sentence("==== 5, ALIKE: both MISSING; a MISSING one and a number aren't");
        pair(BOX, 0, BOX, 0, true);
        for (int kind = 0; kind < 8; kind++) {
            pair(kind, 0, BOX, 0, false);
            pair(kind, 1, BOX, 0, false);
        }
        sentence("==== 5, ALIKE: both bits, and the same; a bit and another number aren't");
        pair(BIT, 0, BIT, 0, true);
        pair(BIT, 1, BIT, 1, true);
        pair(BIT, 0, BIT, 1, false);
        for (int kind = 1; kind < 8; kind++) {
            pair(BIT, 0, kind, 0, false);
            pair(BIT, 1, kind, 1, false);
        }
        sentence("==== 5, ALIKE: both numbers, no bits: the same number, of all KINDS");
        for (int kind = 1; kind < 8; kind++) {
            for (int other = 1; other < 8; other++) {
                pair(kind, 0, other, 0, true);
                pair(kind, 100, other, 100, true);
                pair(kind, 100, other, 101, false);
            }
        }
        sentence("==== 5, ALIKE: of KINDS 1 .. 5 both, VALUES are the same");
        pair(LONG, (1L << 53) + 1, LONG, 1L << 53, false);
        pair(LONG, Long.MAX_VALUE, LONG, Long.MAX_VALUE - 1, false);
        pair(SIGN, 65535, SHORT, -1, false);
        pair(SIGN, 65535, INT, 65535, true);
        pair(BYTE, -1, LONG, -1, true);
        pair(BYTE, -128, SHORT, 128, false);
        sentence("==== 5, ALIKE: else the same as doubles");
        pair(LONG, (1L << 53) + 1, DOUBLE, 1L << 53, true);
        pair(LONG, (1L << 53) + 3, DOUBLE, 1L << 53, false);
        pair(LONG, Long.MAX_VALUE, FLOAT, Long.MAX_VALUE, true);
        pair(LONG, Long.MAX_VALUE, DOUBLE, Long.MIN_VALUE, false);
        pair(INT, 16777217, FLOAT, 16777217, false);
        pair(INT, 16777217, DOUBLE, 16777217, true);
        pair(DOUBLE, 16777217, FLOAT, 16777217, false);
        pair(FLOAT, -5, SHORT, -5, true);
        pair(FLOAT, -5, SHORT, 5, false);
        for (int kind = 6; kind < 8; kind++) {
            for (int other = 1; other < 8; other++) {
                pair(kind, 2, other, 0, false);
                pair(kind, 0, other, 2, false);
                pair(kind, 1, other, -1, false);
            }
        }
        sentence("==== 5, ALIKE: (0.0 and -0.0 are)");
        for (int kind = 6; kind < 8; kind++) {
            for (int other = 1; other < 8; other++) {
                x = new RowMarshal();
                x.make(0, kind, 1);
                x.make(1, other, 1);
                x.real(0, 0, kind, 0, -1);
                due("alike", x.alike(0, 1), NO_SUCH);
                due("alike", x.alike(1, 0), NO_SUCH);
                x.real(1, 0, other, 0, -1);
                due("alike", x.alike(0, 1), NO_SUCH);
                x.write(1, 0, other, 1);
                due("alike", x.alike(0, 1), 0);
            }
        }
        sentence("==== 5, ALIKE: a float and a double of one quotient aren't, unless exact");
        x.make(0, FLOAT, 2);
        x.make(1, DOUBLE, 2);
        x.real(0, 0, FLOAT, 1, 4);
        x.real(1, 0, DOUBLE, 1, 4);
        x.real(0, 1, FLOAT, 1, 3);
        x.real(1, 1, DOUBLE, 1, 3);
        due("alike", x.alike(0, 1), 1);
    }

    /** The DIGEST by what of() and read() tell. */
    private long digestSeen(int slot) {
        int held = x.of(slot, 0);
        if (held == NO_SUCH || held == THING) {
            return 31 * 7 + (held == THING ? 2 : 1);
        }
        long z = 31 * 7 + 3 + held;
        z = 31 * z + x.of(slot, 1);
        for (int i = 0; i < x.of(slot, 1); i++) {
            x.read(slot, i, BOX);
            z = 31 * (31 * z + x.latch(0)) + x.latch(1);
        }
        return z;
    }

    private void digest() {
        sentence("33: NO, any other SLOT");
        due("digest", x.digest(0), 218);
        due("digest", x.digest(7), 218);
        due("digest", x.digest(8), RowMarshal.NO);
        due("digest", x.digest(-2), RowMarshal.NO);
        for (int far : FAR) {
            due("digest", x.digest(far), RowMarshal.NO);
        }
        sentence("==== 5, DIGEST: NOTHING, 31 z and 1; a THING, 31 z and 2");
        due("digest", x.digest(0), 218);
        x.thing(0, 1);
        due("digest", x.digest(0), 219);
        sentence("==== 5, DIGEST: a ROW without CELLS");
        for (int kind = 0; kind < 9; kind++) {
            x.make(0, kind, 0);
            due("digest", x.digest(0), (217 + 3 + kind) * 31);
        }
        sentence("==== 5, DIGEST: of a ROW: KINDS and VALUES (longs that wrap)");
        for (int kind = 0; kind < 8; kind++) {
            row(kind, kind, -1, 1, 0, Long.MIN_VALUE, Long.MAX_VALUE, 3, 4, 5, 6, 7, 8, 9, 10, 11,
                12, -13);
            due("digest", x.digest(kind), digestSeen(kind));
        }
        x.make(0, BOX, 10);
        for (int kind = 0; kind < 9; kind++) {
            x.box(0, kind, kind, -1);
        }
        due("digest", x.digest(0), digestSeen(0));
        sentence("33: of all (SLOT -1): z is 7, for each SLOT 31 z and its DIGEST");
        long nothing = 7;
        for (int s = 0; s < 8; s++) {
            nothing = 31 * nothing + 218;
        }
        due("of an empty one", x.digest(-1), nothing);
        for (int turn = 0; turn < 8; turn++) {
            x.make(turn, turn, turn);
            long z = 7;
            for (int s = 0; s < 8; s++) {
                z = 31 * z + digestSeen(s);
            }
            due("digest", x.digest(-1), z);
        }
    }

    private void all() {
        bytes();
        modeNone();
        modeNoSuch();
        smallest();
        scan();
        found();
        fitNone();
        fit();
        tripAnswers();
        trip();
        alikeAnswers();
        alike();
        digest();
        check.end();
    }

    public static void main(String[] args) {
        new EdgesOfThoughtTest().all();
    }
}
