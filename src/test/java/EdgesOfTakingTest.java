/** The boundary cases of promise 19 and of what is TAKEN, under ==== 4. */
public final class EdgesOfTakingTest extends Scene {
    private EdgesOfTakingTest() {
    }

    /** A FRAME by VERSION 0 stands alone on THE WIRE; VERSION 1 is the READER. */
    private void versions(String writer, String reader) {
        define(0, writer);
        define(1, reader);
    }

    private void packed() {
        x.cut(0);
        due("pack", x.pack(0) > 0 ? 1 : 0, 1);
    }

    private void takes() {
        due("load", x.load(0, 1), x.wire(-1));
    }

    private void refuses(int field, int cell, int why) {
        String before = state();
        int taken = x.count(9);
        due("load", x.load(0, 1), REFUSED);
        stopped(2, field, cell, why);
        check.due("nothing changes", state(), before);
        due("count", x.count(9), taken);
    }

    private void counts() {
        sentence("==== 4, TAKEN: COUNT (CELL: how many there are)");
        versions("a:int[]", "a:int[5]");
        for (int n = 0; n <= 16; n++) {
            x.make(0, INT, n);
            packed();
            if (n == 5) {
                takes();
            } else {
                due("load", x.load(0, 1), REFUSED);
                stopped(2, 0, n, COUNT);
            }
        }
        sentence("==== 4, TAKEN: COUNT, the READER has one CELL without brackets");
        versions("a:int[2]", "a:int");
        row(0, INT, 1, 2);
        packed();
        refuses(0, 2, COUNT);
        sentence("==== 4, TAKEN: COUNT, ahead of what refuses a CELL");
        versions("a:box[2]", "a:int[3]");
        x.make(0, BOX, 2);
        packed();
        refuses(0, 2, COUNT);
        sentence("==== 4, TAKEN: with [] as many CELLS: none, sixteen");
        versions("a:int[]", "a:long[]");
        x.make(0, INT, 0);
        packed();
        takes();
        due("of", x.of(0, 0), LONG);
        due("of", x.of(0, 1), 0);
        x.make(0, INT, 16);
        packed();
        x.thing(0, 0);
        takes();
        due("of", x.of(0, 1), 16);
        sentence("==== 4, TAKEN: a ROW of no CELLS, whatever the KINDS are");
        versions("a:double[]", "a:bit[]!");
        x.make(0, DOUBLE, 0);
        packed();
        takes();
        due("of", x.of(0, 0), BIT);
    }

    private void kindPair(int from, int to, int lax) {
        sentence("==== 4, TAKEN: " + WORDS[from] + " by " + WORDS[to] + ", LAX " + lax);
        versions("a:" + WORDS[from], "a:" + WORDS[to]);
        row(0, from, 1);
        x.lax(lax);
        packed();
        boolean whole = from >= BYTE && from <= LONG && to >= BYTE && to <= LONG;
        if (widens(from, to) || (lax == 1 && whole)) {
            takes();
            due("of", x.of(0, 0), to);
            cell(0, 0, to, valueBy(to, 1));
        } else {
            refuses(0, 0, KIND);
        }
        // the same of a box
        x.make(0, BOX, 1);
        x.box(0, 0, from, 1);
        define(0, "a:box");
        packed();
        if (widens(from, to) || (lax == 1 && whole)) {
            takes();
            cell(0, 0, to, valueBy(to, 1));
        } else {
            refuses(0, 0, KIND);
        }
    }

    private void kinds() {
        for (int from = 0; from < 8; from++) {
            for (int to = 0; to < 8; to++) {
                kindPair(from, to, 0);
                kindPair(from, to, 1);
            }
        }
    }

    private void ranged(int from, int to, long v, boolean has) {
        sentence("==== 4, TAKEN: RANGE, if there is none: " + WORDS[to] + " of " + v);
        versions("a:" + WORDS[from] + "[2]", "a:" + WORDS[to] + "[2]");
        row(0, from, 0, v);
        packed();
        refuses(0, 0, KIND);
        x.lax(1);
        if (has) {
            takes();
            cell(0, 1, to, v);
        } else {
            refuses(0, 1, RANGE);
        }
        versions("a:box", "a:" + WORDS[to]);
        x.make(0, BOX, 1);
        x.box(0, 0, from, v);
        packed();
        if (has) {
            takes();
            cell(0, 0, to, v);
        } else {
            refuses(0, 0, RANGE);
        }
    }

    private void ranges() {
        ranged(LONG, BYTE, 127, true);
        ranged(LONG, BYTE, 128, false);
        ranged(LONG, BYTE, -128, true);
        ranged(LONG, BYTE, -129, false);
        ranged(SIGN, BYTE, 127, true);
        ranged(SIGN, BYTE, 128, false);
        ranged(SHORT, BYTE, 256, false);
        ranged(INT, BYTE, LOW, false);
        ranged(BYTE, SIGN, 127, true);
        ranged(BYTE, SIGN, -1, false);
        ranged(INT, SIGN, 65535, true);
        ranged(INT, SIGN, 65536, false);
        ranged(LONG, SIGN, 1L << 32, false);
        ranged(SHORT, SIGN, -32768, false);
        ranged(SIGN, SHORT, 32767, true);
        ranged(SIGN, SHORT, 32768, false);
        ranged(INT, SHORT, -32768, true);
        ranged(INT, SHORT, -32769, false);
        ranged(LONG, INT, HIGH, true);
        ranged(LONG, INT, HIGH + 1L, false);
        ranged(LONG, INT, LOW, true);
        ranged(LONG, INT, LOW - 1L, false);
        ranged(LONG, INT, Long.MIN_VALUE, false);
        sentence("==== 4, TAKEN: both KINDS are 1 .. 5: no float of a long by int, at LAX 1");
        versions("a:float", "a:int");
        x.lax(1);
        row(0, FLOAT, 0);
        packed();
        refuses(0, 0, KIND);
        sentence("==== 4, TAKEN: what WIDENS isn't refused, so no RANGE: long by float");
        versions("a:long", "a:float");
        x.lax(1);
        row(0, LONG, Long.MAX_VALUE);
        packed();
        takes();
        cell(0, 0, FLOAT, Float.floatToIntBits(0x1p63f));
    }

    private void boxes() {
        sentence("==== 4, TAKEN: a BOX into a ROW of numbers, GAP, if it is MISSING");
        for (int lax = 0; lax < 2; lax++) {
            for (int to = 0; to < 8; to++) {
                x = new RowMarshal();
                versions("a:box[2]", "a:" + WORDS[to] + "[2]");
                x.lax(lax);
                x.make(0, BOX, 2);
                packed();
                refuses(0, 0, GAP);
                x.box(0, 0, to, 1);
                packed();
                refuses(0, 1, GAP);
                x.box(0, 1, to, 1);
                packed();
                takes();
                cell(0, 1, to, valueBy(to, 1));
            }
        }
        sentence("==== 4, TAKEN: into a ROW of boxes, BOXED: as they are");
        for (int kind = 0; kind < 9; kind++) {
            x = new RowMarshal();
            versions("a:box[]", "a:box[2]");
            x.make(0, BOX, 2);
            x.box(0, 1, kind, -1);
            packed();
            x.thing(0, 0);
            takes();
            due("of", x.of(0, 0), BOX);
            cell(0, 0, BOX, 0);
            cell(0, 1, kind, kind == BOX ? 0 : valueBy(kind, -1));
        }
        sentence("==== 4, TAKEN: numbers into a ROW of boxes: of the WRITER's FIELD's KIND");
        for (int kind = 0; kind < 8; kind++) {
            x = new RowMarshal();
            versions("a:" + WORDS[kind], "a:box");
            row(0, kind, -1);
            packed();
            takes();
            due("of", x.of(0, 0), BOX);
            cell(0, 0, kind, valueBy(kind, -1));
        }
        versions("a:long", "a:box");
        row(0, BYTE, -5);
        packed();
        takes();
        cell(0, 0, LONG, -5);
        sentence("==== 4, TAKEN: numbers of a box FIELD keep their own KIND");
        versions("a:box", "a:box");
        row(0, BYTE, -5);
        packed();
        takes();
        due("of", x.of(0, 0), BOX);
        cell(0, 0, BYTE, -5);
    }

    private void cellByCell() {
        sentence("==== 4, TAKEN: CELL by CELL, the first that is refused");
        versions("a:box[4]", "a:byte[4]");
        x.lax(1);
        x.make(0, BOX, 4);
        x.box(0, 0, INT, 5);
        x.box(0, 1, INT, 500);
        x.box(0, 3, BIT, 1);
        packed();
        refuses(0, 1, RANGE);
        x.box(0, 1, INT, 6);
        packed();
        refuses(0, 2, GAP);
        x.box(0, 2, INT, 7);
        packed();
        refuses(0, 3, KIND);
        x.box(0, 3, INT, 8);
        packed();
        takes();
        cell(0, 3, BYTE, 8);
        sentence("==== 4, TAKEN: FIELD by FIELD of the READER, the first that is refused");
        versions("a:int;b:int[2];c:box", "c:int;d:int=1;e:int!;b:int;a:short");
        row(0, INT, 1);
        row(1, INT, 1, 2);
        x.make(2, BOX, 1);
        packed();
        refuses(0, 0, GAP);
        define(1, "d:int=1;e:int!;b:int;a:short");
        refuses(1, 0, NEEDED);
        define(1, "d:int=1;b:int;a:short");
        refuses(1, 2, COUNT);
        define(1, "d:int=1;a:short");
        refuses(1, 0, KIND);
    }

    private void defaulted(String field, int kind, int cells, long value) {
        x = new RowMarshal();
        versions("a:bit", field);
        packed();
        takes();
        due("of " + field, x.of(1, 0), kind);
        due("of " + field, x.of(1, 1), cells);
        for (int i = 0; i < cells; i++) {
            cell(1, i, kind, value);
        }
    }

    private void defaults() {
        sentence("==== 4, TAKEN: with a DEFAULT a new ROW, all CELLS the KIND's number by that");
        defaulted("b:bit=7", BIT, 1, 1);
        defaulted("b:bit=0", BIT, 1, 0);
        defaulted("b:bit=-0", BIT, 1, 0);
        defaulted("b:byte=300", BYTE, 1, 44);
        defaulted("b:byte=128", BYTE, 1, -128);
        defaulted("b:sign=-1", SIGN, 1, 65535);
        defaulted("b:sign[16]=65536", SIGN, 16, 0);
        defaulted("b:short=32768", SHORT, 1, -32768);
        defaulted("b:int[3]=-999999", INT, 3, -999999);
        defaulted("b:long=999999", LONG, 1, 999999);
        defaulted("b:float[2]=999999", FLOAT, 2, Float.floatToIntBits(999999));
        defaulted("b:float=-0", FLOAT, 1, 0);
        defaulted("b:double=-5", DOUBLE, 1, Double.doubleToLongBits(-5));
        sentence("==== 4, TAKEN: (with [] of no CELLS)");
        for (int kind = 0; kind < 8; kind++) {
            defaulted("b:" + WORDS[kind] + "[]=5", kind, 0, 0);
        }
        sentence("==== 4, TAKEN: by DEFAULT, if the WRITER's isn't PRESENT");
        versions("a:int;b:int", "a:int=5;b:int");
        row(1, INT, 6);
        packed();
        takes();
        cell(0, 0, INT, 5);
        cell(1, 0, INT, 6);
        sentence("==== 4, TAKEN: not by DEFAULT, if the WRITER's is PRESENT");
        versions("a:int[]", "a:int[]=5");
        row(0, INT, 0, 0);
        packed();
        takes();
        due("of", x.of(0, 1), 2);
        cell(0, 1, INT, 0);
        sentence("==== 4, TAKEN: by DEFAULT, whatever the SLOT held");
        versions("a:bit", "b:int=5;c:int=6");
        row(1, LONG, 1, 2);
        x.thing(2, 1);
        packed();
        takes();
        cell(1, 0, INT, 5);
        cell(2, 0, INT, 6);
    }

    private void otherwise() {
        sentence("==== 4, TAKEN: NEEDED, if it is (CELL 0): it has none");
        versions("a:bit", "b:int!");
        row(1, INT, 5);
        packed();
        refuses(0, 0, NEEDED);
        sentence("==== 4, TAKEN: NEEDED, ... or isn't PRESENT");
        versions("a:bit;b:int[3]", "a:bit;b:int[3]!");
        packed();
        refuses(1, 0, NEEDED);
        sentence("==== 4, TAKEN: NEEDED (CELL 0), though an earlier load() had another CELL");
        versions("a:int[9]", "a:int[3]");
        x.make(0, INT, 9);
        packed();
        refuses(0, 9, COUNT);
        define(1, "b:int!");
        refuses(0, 0, NEEDED);
        sentence("==== 4, TAKEN: NEEDED, ahead of its DEFAULT");
        versions("a:bit", "b:int=5!");
        packed();
        refuses(0, 0, NEEDED);
        sentence("==== 4, TAKEN: else NOTHING, whatever the SLOT held");
        versions("a:bit;b:int", "a:bit;b:int;c:int;d:box[]");
        packed();
        row(1, INT, 5);
        x.thing(2, 1);
        x.make(3, BOX, 2);
        takes();
        for (int s = 0; s < 4; s++) {
            due("of", x.of(s, 0), NO_SUCH);
        }
        sentence("==== 4, TAKEN: others stay: what the WRITER alone has, too");
        versions("a:int;b:int", "b:long");
        row(0, INT, 1);
        row(1, INT, 2);
        packed();
        row(0, SHORT, 3);
        x.thing(7, 1);
        takes();
        cell(0, 0, SHORT, 3);
        cell(1, 0, LONG, 2);
        due("of", x.of(7, 0), THING);
        sentence("==== 4, TAKEN: a new ROW, though the very same was PACKED");
        versions("a:int;b:int", "a:int;b:int");
        row(0, INT, 1);
        x.same(1, 0);
        x.same(2, 0);
        packed();
        takes();
        due("of", x.of(0, 2), 1);
        due("of", x.of(1, 2), 1);
        due("of", x.of(2, 2), 1);
        x.write(0, 0, INT, 9);
        cell(1, 0, INT, 1);
        cell(2, 0, INT, 1);
        sentence("==== 4, TAKEN: like letters, in another order");
        versions("a:int;b:long;c:box", "c:box;b:double;a:long");
        row(0, INT, 1);
        row(1, LONG, 2);
        x.make(2, BOX, 1);
        packed();
        takes();
        cell(0, 0, LONG, 1);
        cell(1, 0, DOUBLE, Double.doubleToLongBits(2));
        cell(2, 0, BOX, 0);
        sentence("==== 4, TAKEN: by the WRITER's own VERSION");
        versions("a:int[]", "b:bit");
        row(0, INT, 1, 2);
        packed();
        x.make(0, BOX, 3);
        due("load", x.load(0, 0), x.wire(-1));
        cell(0, 1, INT, 2);
    }

    private void refusedWhole() {
        sentence("==== 4, TAKEN: what is REFUSED changes nothing: FIELDS ahead neither");
        versions("a:int;b:int", "a:long;c:int=5;d:int;b:bit");
        row(0, INT, 1);
        row(1, INT, 2);
        x.thing(3, 1);
        packed();
        refuses(3, 0, KIND);
        due("of", x.of(0, 0), INT);
        due("of", x.of(2, 0), NO_SUCH);
        due("of", x.of(3, 0), THING);
        sentence("==== 4, TAKEN: nothing of a load() that was REFUSED comes by a later one");
        versions("a:int;b:int", "a:long;b:bit");
        row(0, INT, 1);
        row(1, INT, 2);
        packed();
        refuses(1, 0, KIND);
        define(1, "c:int;d:int");
        takes();
        due("of", x.of(2, 0), NO_SUCH);
        due("of", x.of(0, 0), INT);
        sentence("==== 4, TAKEN: what is LOST changes nothing but THE STOP");
        versions("a:int", "a:int");
        row(0, INT, 1);
        packed();
        x.poke(4, 2);
        row(0, INT, 7);
        String before = state();
        due("load", x.load(0, 1), LOST);
        stopped(3, 3, 5, 0);
        check.due("state", state(), before);
        due("count", x.count(9), 0);
        due("count", x.count(10), 1);
    }

    private void answers() {
        sentence("19: NONE, place (one of THE WIRE)");
        define(0, "a:bit");
        due("of an empty WIRE", x.load(0, 0), NONE);
        x.pack(0);
        x.pack(0);
        due("load", x.load(0, 0), 5);
        due("load", x.load(5, 0), 10);
        due("load", x.load(9, 0) == LOST ? 1 : 0, 1);
        due("load", x.load(10, 0), NONE);
        due("load", x.load(-1, 0), NONE);
        for (int far : new int[] {LOW, -2, 499, 500, HIGH}) {
            due("load", x.load(far, 0), NONE);
        }
        sentence("19: NONE, version (0 .. 5)");
        define(0, "a:bit");
        define(5, "a:bit");
        x.pack(0);
        due("load", x.load(0, 5), 5);
        due("load", x.load(0, 6), NONE);
        due("load", x.load(0, -1), NONE);
        for (int far : FAR) {
            due("load", x.load(0, far), NONE);
        }
        sentence("19: NONE is named ahead of STATE: place");
        due("load", x.load(0, 0), NONE);
        sentence("19: STATE, it isn't there, ahead of LOST");
        define(0, "a:bit");
        x.pack(0);
        x.poke(4, x.wire(4) ^ 1);
        due("load", x.load(0, 0), LOST);
        for (int v = 1; v < 6; v++) {
            due("load", x.load(0, v), STATE);
        }
        due("count", x.count(10), 1);
        sentence("19: LOST is named ahead of REFUSED");
        versions("a:bit", "b:int!");
        x.pack(0);
        due("load", x.load(0, 1), REFUSED);
        x.poke(4, x.wire(4) ^ 1);
        due("load", x.load(0, 1), LOST);
        stopped(3, 3, 3, 0);
        sentence("19: LOST, the WRITER isn't there, though the READER is");
        versions("a:bit", "a:bit");
        x.pack(0);
        x.drop(0);
        due("load", x.load(0, 1), LOST);
        stopped(3, 1, 0, 0);
        sentence("19: the place behind it, at THE WIRE's very end");
        define(0, "a:bit");
        for (int i = 0; i < 100; i++) {
            x.pack(0);
        }
        due("load", x.load(495, 0), 500);
        due("load", x.load(0, 0), 5);
        due("count", x.count(9), 2);
        sentence("19: THE WIRE stays");
        define(0, "a:int");
        row(0, INT, 300);
        x.pack(0);
        x.load(0, 0);
        framed(0, "01" + "02012c");
    }

    private void all() {
        counts();
        kinds();
        ranges();
        boxes();
        cellByCell();
        defaults();
        otherwise();
        refusedWhole();
        answers();
        check.end();
    }

    public static void main(String[] args) {
        new EdgesOfTakingTest().all();
    }
}
