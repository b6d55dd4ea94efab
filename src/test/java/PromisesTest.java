/** Promise by promise: ordinary inputs, the edges that the document names, and wrong inputs. */
public final class PromisesTest {
    private static final int NOTHING = -11, KIND = -12, PLACE = -13, SIZE = -14;
    private static final int LOW = Integer.MIN_VALUE, HIGH = Integer.MAX_VALUE;
    private final Check check = new Check();
    private RowMarshal x;

    private PromisesTest() {
    }

    private void promise(int number) {
        check.about("promise " + number);
        x = new RowMarshal();
    }

    private void due(String call, long got, long want) {
        check.due(call, got, want);
    }

    /** A SLOT gets a ROW with these numbers of its KIND. */
    private void row(int slot, int kind, long... values) {
        due("make", x.make(slot, kind, values.length), 1);
        for (int i = 0; i < values.length; i++) {
            due("write", x.write(slot, i, kind, values[i]), 1);
        }
    }

    private void define(int version, String text, int fields) {
        due("define " + text, Check.define(x, version, text), fields);
    }

    /** What CELL i of a SLOT holds. */
    private void cell(int slot, int i, int kind, long value) {
        due("read " + slot + " " + i, x.read(slot, i, 8), 1);
        due("kind of " + slot + " " + i, x.latch(0), kind);
        due("value of " + slot + " " + i, x.latch(1), value);
    }

    private void stopped(int by, int first, int second, int why) {
        due("stop(0)", x.stop(0), by);
        due("stop(1)", x.stop(1), first);
        due("stop(2)", x.stop(2), second);
        due("stop(3)", x.stop(3), why);
    }

    private void wire(String hex) {
        check.due("the wire", Check.hex(x, 0, x.wire(-1)), hex);
    }

    private void one() {
        promise(1);
        for (int s = 0; s < 8; s++) {
            due("of", x.of(s, 0), -5);
        }
        due("lax", x.lax(0), 0);
        for (int what = 0; what < 14; what++) {
            due("count " + what, x.count(what), 0);
        }
        due("latch", x.latch(0), 8);
        due("latch", x.latch(1), 0);
        due("stop", x.stop(0), -3);
        due("back", x.back(), -3);
        due("wire", x.wire(-1), 0);
        due("smallest", x.smallest(), -5);
        for (int v = 0; v < 6; v++) {
            due("spell", x.spell(v), -3);
        }
    }

    private void two() {
        promise(2);
        for (int kind = 0; kind < 9; kind++) {
            due("make", x.make(7, kind, 16), 1);
            due("of", x.of(7, 0), kind);
            due("of", x.of(7, 1), 16);
            cell(7, 15, kind, 0);
        }
        due("make", x.make(0, 4, 0), 1);
        due("of", x.of(0, 1), 0);
        due("slot", x.make(8, 9, -1), -1);
        due("slot", x.make(-1, 4, 1), -1);
        due("kind", x.make(0, 9, -1), -2);
        due("kind", x.make(0, -1, 1), -2);
        due("n", x.make(0, 4, 17), -2);
        due("n", x.make(0, 4, HIGH), -2);
        due("size", x.make(0, 4, -1), SIZE);
        due("size", x.make(0, 4, LOW), SIZE);
        due("it stays", x.of(0, 0), 4);
        due("a new row", x.make(0, 4, 0), 1);
    }

    private void three() {
        promise(3);
        due("thing", x.thing(2, 1), 1);
        due("of", x.of(2, 0), 9);
        due("thing", x.thing(2, 0), 1);
        due("of", x.of(2, 0), -5);
        due("slot", x.thing(8, 7), -1);
        due("slot", x.thing(-1, 0), -1);
        due("what", x.thing(2, 2), -2);
        due("what", x.thing(2, -1), -2);
    }

    private void four() {
        promise(4);
        row(0, 4, 5, 6);
        due("same", x.same(3, 0), 1);
        due("write", x.write(3, 1, 4, 77), 1);
        cell(0, 1, 4, 77);
        due("same of a thing", x.thing(1, 1) + x.same(4, 1), 2);
        due("of", x.of(4, 0), 9);
        due("same of nothing", x.same(3, 6), 1);
        due("of", x.of(3, 0), -5);
        due("itself", x.same(0, 0), 1);
        due("of", x.of(0, 2), 1);
        due("slot", x.same(8, 0), -1);
        due("slot", x.same(0, 8), -1);
        due("slot", x.same(0, -1), -1);
    }

    private void five() {
        promise(5);
        row(0, 2, 1, 2, 3);
        row(1, 2, 1, 2, 3);
        x.same(5, 0);
        x.same(7, 5);
        x.thing(2, 1);
        due("of", x.of(0, 1), 3);
        due("of", x.of(7, 2), 3);
        due("of", x.of(1, 2), 1);
        due("of", x.of(2, 0), 9);
        due("of", x.of(2, 1), KIND);
        due("of", x.of(2, 2), KIND);
        due("of", x.of(3, 0), -5);
        due("of", x.of(3, 1), NOTHING);
        due("of", x.of(3, 2), NOTHING);
        due("of", x.of(8, 0), -1);
        due("of", x.of(-1, 1), -1);
        due("of", x.of(0, 3), -1);
        due("of", x.of(3, -1), -1);
    }

    private void six() {
        promise(6);
        String[] widens = {"0", "134567", "24567", "34567", "4567", "567", "67", "7"};
        for (int kind = 0; kind < 8; kind++) {
            row(0, kind, 1);
            for (int view = 0; view < 8; view++) {
                boolean may = widens[kind].indexOf('0' + view) >= 0;
                due("read " + kind + " by " + view, x.read(0, 0, view), may ? 1 : KIND);
                if (may) {
                    due("kind", x.latch(0), view);
                    due("value", x.latch(1), view == 6 ? Float.floatToIntBits(1)
                        : view == 7 ? Double.doubleToLongBits(1) : 1);
                }
            }
        }
        x.make(1, 8, 2);
        x.thing(2, 1);
        due("boxes before place", x.read(1, 9, 4), KIND);
        due("boxes", x.read(1, 0, 8), 1);
        due("missing", x.latch(0), 8);
        due("thing", x.read(2, 0, 8), KIND);
        due("nothing", x.read(3, -1, 0), NOTHING);
        due("place before kind", x.read(0, 1, 0), PLACE);
        due("place", x.read(0, -1, 8), PLACE);
        due("place", x.read(1, 2, 8), PLACE);
        due("slot", x.read(8, 0, 0), -1);
        due("view", x.read(3, 0, 9), -1);
        due("view", x.read(0, 0, -1), -1);
        due("the latch stays", x.latch(0), 8);
    }

    private void seven() {
        promise(7);
        due("latch", x.latch(0), 8);
        due("latch", x.latch(1), 0);
        due("latch", x.latch(2), RowMarshal.NO);
        due("latch", x.latch(-1), RowMarshal.NO);
        row(0, 6, -3);
        cell(0, 0, 6, Float.floatToIntBits(-3f));
        due("below 0, as an int's", x.latch(1) < 0 ? 1 : 0, 1);
        due("refused", x.read(0, 0, 5), KIND);
        due("latch", x.latch(0), 6);
        due("read", x.read(0, 0, 7), 1);
        due("latch", x.latch(1), Double.doubleToLongBits(-3.0));
    }

    private void written(int row, int kind, long v, long value) {
        x.make(0, row, 1);
        due("write", x.write(0, 0, kind, v), 1);
        cell(0, 0, row, value);
    }

    private void eight() {
        promise(8);
        written(0, 0, 256, 1);
        written(0, 0, Long.MIN_VALUE, 1);
        written(1, 1, 200, -56);
        written(2, 2, -1, 65535);
        written(2, 2, 65536, 0);
        written(3, 3, 40000, -25536);
        written(4, 4, 1L << 31, LOW);
        written(5, 5, Long.MIN_VALUE, Long.MIN_VALUE);
        written(5, 2, -1, 65535);
        written(5, 1, 255, -1);
        written(6, 6, 16777217, Float.floatToIntBits(16777216f));
        written(6, 5, 16777219, Float.floatToIntBits(16777220f));
        written(6, 4, LOW, Float.floatToIntBits(-2147483648f));
        written(7, 7, 9007199254740993L, Double.doubleToLongBits(9007199254740992.0));
        written(7, 7, Long.MAX_VALUE, Double.doubleToLongBits(9223372036854775808.0));
        written(7, 6, 16777217, Double.doubleToLongBits(16777216.0));
        // one rounding alone: by way of a double it would be 2^60
        written(6, 5, (1L << 60) + (1L << 36) + 1,
            Float.floatToIntBits((float) ((1L << 60) + (1L << 36) + 1)));
        x.make(1, 8, 1);
        x.thing(2, 1);
        due("a row of boxes", x.write(1, 0, 4, 1), KIND);
        due("a row of boxes", x.write(1, 5, 4, 1), KIND);
        due("a thing", x.write(2, 0, 4, 1), KIND);
        due("nothing", x.write(3, 0, 4, 1), NOTHING);
        x.make(4, 3, 2);
        due("place before kind", x.write(4, 2, 4, 1), PLACE);
        due("place", x.write(4, -1, 3, 1), PLACE);
        due("kind", x.write(4, 0, 4, 1), KIND);
        due("slot", x.write(-1, 0, 4, 1), -1);
        due("kind", x.write(4, 0, 8, 1), -1);
        due("kind", x.write(3, 0, -1, 1), -1);
    }

    /** Numbers that lie between two floats or doubles, and at their halves. */
    private void eightNearest() {
        promise(8);
        for (int top = 0; top < 64; top++) {
            x = new RowMarshal();
            x.make(0, 6, 1);
            x.make(1, 7, 1);
            for (int low = 0; low < top; low++) {
                for (int more = -1; more < 2; more++) {
                    long v = (1L << top) + (1L << low) + more;
                    x.write(0, 0, 5, v);
                    cell(0, 0, 6, Float.floatToIntBits((float) v));
                    x.write(1, 0, 5, -v);
                    cell(1, 0, 7, Double.doubleToLongBits((double) -v));
                }
            }
        }
    }

    /** Floats of every size, laid on THE WIRE, as doubles. */
    private void sixSubnormal() {
        promise(6);
        bodies("a:float");
        int[] bits = {1, 2, 3, 0x7FFFFF, 0x400000, 0x800000, 0x80000001, 0x807FFFFF, 0x7F7FFFFF,
            0xFF7FFFFF, 0x80000000, 0x3EAAAAAB};
        for (int one : bits) {
            Check.wireOf(x, 0, 1, 4, one >>> 24, one >> 16 & 255, one >> 8 & 255, one & 255);
            due("load", x.load(0, 0), 10);
            due("read", x.read(0, 0, 7), 1);
            due("value", x.latch(1), Double.doubleToLongBits(Float.intBitsToFloat(one)));
            cell(0, 0, 6, one);
        }
    }

    private void nine() {
        promise(9);
        int[] some = {1, -1, 2, 3, -3, 7, 10, 16777217, 33554433, 123456789, HIGH, LOW, LOW + 1, 0};
        x.make(0, 6, 1);
        x.make(1, 7, 1);
        for (int above : some) {
            for (int below : some) {
                if (below != 0) {
                    due("real", x.real(0, 0, 6, above, below), 1);
                    float quotient = (float) above / (float) below;
                    cell(0, 0, 6, Float.floatToIntBits(quotient));
                    due("real", x.real(1, 0, 7, above, below), 1);
                    cell(1, 0, 7, Double.doubleToLongBits((double) above / (double) below));
                    due("a float into doubles", x.real(1, 0, 6, above, below), 1);
                    cell(1, 0, 7, Double.doubleToLongBits(quotient));
                }
            }
            x = new RowMarshal();
            x.make(0, 6, 1);
            x.make(1, 7, 1);
        }
        due("nought with a sign", x.real(1, 0, 7, 0, -5), 1);
        cell(1, 0, 7, Long.MIN_VALUE);
        due("a double into floats", x.real(0, 0, 7, 1, 2), KIND);
        due("below 0", x.real(5, 0, 7, 1, 0), -2);
        due("kind", x.real(1, 0, 5, 1, 0), -1);
        due("kind", x.real(1, 0, 8, 1, 1), -1);
        due("slot", x.real(8, 0, 7, 1, 0), -1);
        due("nothing", x.real(5, 0, 7, 1, 1), NOTHING);
        due("place", x.real(0, 1, 7, 1, 1), PLACE);
        x.make(2, 8, 1);
        due("boxes", x.real(2, 0, 7, 1, 1), KIND);
        x.make(3, 5, 1);
        due("longs", x.real(3, 0, 6, 1, 1), KIND);
    }

    private void ten() {
        promise(10);
        x.make(0, 8, 9);
        for (int kind = 0; kind < 8; kind++) {
            due("box", x.box(0, kind, kind, 300), 1);
        }
        long[] values = {1, 44, 300, 300, 300, 300, Float.floatToIntBits(300),
            Double.doubleToLongBits(300)};
        for (int kind = 0; kind < 8; kind++) {
            cell(0, kind, kind, values[kind]);
        }
        cell(0, 8, 8, 0);
        due("missing", x.box(0, 3, 8, 55), 1);
        cell(0, 3, 8, 0);
        x.make(1, 4, 1);
        x.thing(2, 1);
        due("widens", x.box(1, 0, 3, -2), 1);
        cell(1, 0, 4, -2);
        due("a number that doesn't", x.box(1, 0, 5, 1), KIND);
        due("place ahead of that", x.box(1, 1, 5, 1), PLACE);
        due("missing ahead of place", x.box(1, 1, 8, 1), KIND);
        due("thing", x.box(2, 0, 8, 1), KIND);
        due("nothing", x.box(3, 0, 8, 1), NOTHING);
        due("place", x.box(0, 9, 8, 1), PLACE);
        due("slot", x.box(8, 0, 8, 1), -1);
        due("kind", x.box(0, 0, 9, 1), -1);
        due("kind", x.box(3, 0, -1, 1), -1);
    }

    private void eleven() {
        promise(11);
        due("lax", x.lax(1), 0);
        due("lax", x.lax(2), -2);
        due("lax", x.lax(-1), -2);
        due("lax", x.lax(0), 1);
        due("lax", x.lax(0), 0);
    }

    private void twelve() {
        promise(12);
        due("feed", x.feed(1, 0x7F), 1);
        due("bytes beyond n are left", x.feed(1, 0x00FF8001), 2);
        due("n", x.feed(0, 1), -2);
        due("n", x.feed(5, 0x01010101), -2);
        due("n", x.feed(-1, 0x01010101), -2);
        due("a byte", x.feed(2, 0x0001), -2);
        due("a byte", x.feed(1, 128), -2);
        due("a byte", x.feed(4, 0x80010101), -2);
        for (int i = 1; i < 40; i++) {
            due("feed", x.feed(4, 0x61616161), 2 + 4 * i);
        }
        due("bad is told first", x.feed(4, 0), -2);
        due("full", x.feed(3, 0x616161), -4);
        due("feed", x.feed(2, 0x6161), 160);
        due("full", x.feed(1, 0x61), -4);
        due("count", x.count(5), 160);
        x = new RowMarshal();
        Check.feed(x, "c:int");
        due("the lowest first", x.define(1), 1);
        due("field", x.field(1, 0, 0), 2);
    }

    private void faultAt(String text, int place) {
        due("define " + text, Check.define(x, 2, text), -100 - place);
        due("the tape is empty", x.count(5), 0);
    }

    private void thirteen() {
        promise(13);
        define(2, "b:int", 1);
        Check.feed(x, "a:int");
        due("version", x.define(6), -1);
        due("version", x.define(-1), -1);
        due("the tape stays", x.count(5), 5);
        due("define", x.define(0), 1);
        due("the tape is empty", x.count(5), 0);
        faultAt("", 0);
        faultAt("i:int", 0);
        faultAt("A:int", 0);
        faultAt("a", 1);
        faultAt("a=int", 1);
        faultAt("a:", 2);
        faultAt("a:in", 2);
        faultAt("a:inta", 2);
        faultAt("a:intz", 2);
        faultAt("a:[2]", 2);
        faultAt("a:Int", 2);
        faultAt("a:int ", 5);
        faultAt("a:int[", 6);
        faultAt("a:int[x]", 6);
        faultAt("a:int[-1]", 6);
        faultAt("a:int[0]", 6);
        faultAt("a:int[00]", 6);
        faultAt("a:int[17]", 6);
        faultAt("a:int[99", 6);
        faultAt("a:int[123]", 8);
        faultAt("a:int[1", 7);
        faultAt("a:int[1;", 7);
        faultAt("a:int[1][2]", 8);
        faultAt("a:int=", 6);
        faultAt("a:int=!", 6);
        faultAt("a:int=-", 7);
        faultAt("a:int=--1", 7);
        faultAt("a:int=1234567", 12);
        faultAt("a:int=1=2", 7);
        faultAt("a:int=1[2]", 7);
        faultAt("a:box=1", 5);
        faultAt("a:box[]=1", 7);
        faultAt("a:int!!", 6);
        faultAt("a:int!=1", 6);
        faultAt("a:int;", 6);
        faultAt("a:int;;", 6);
        faultAt("a:int;a:int", 6);
        faultAt("a:int;b:bit;a", 12);
        faultAt("a:bit;b:bit;c:bit;d:bit;e:bit;f:bit;g:bit;h:bit;", 48);
        faultAt("a:bit;b:bit;c:bit;d:bit;e:bit;f:bit;g:bit;h:bit;?", 48);
        faultAt("a:bit;b:bit;c:bit;d:bit;e:bit;f:bit;g:bit;h:bit;a:bit", 48);
        check.due("the version is as it was", Check.spelled(x, 2), "b:int");
        define(2, "a:bit;b:byte;c:sign;d:short;e:int;f:long;g:float;h:double", 8);
        define(2, "h:box[]!", 1);
        define(2, "h:double[16]=-999999!;a:box[02]", 2);
    }

    private void fourteen() {
        promise(14);
        define(5, "a:int", 1);
        due("drop", x.drop(5), 1);
        due("drop", x.drop(5), -3);
        due("field", x.field(5, 0, 0), -3);
        due("drop", x.drop(6), -1);
        due("drop", x.drop(-1), -1);
        due("count", x.count(4), 0);
    }

    private void fifteen() {
        promise(15);
        define(1, "d:short[12]=-0070!;b:box[];a:bit", 3);
        int[][] told = {{3, 3, 12, 1, 1, -70}, {1, 8, 0, 0, 0, -2000000000},
            {0, 0, 1, 0, 0, -2000000000}};
        for (int k = 0; k < 3; k++) {
            for (int what = 0; what < 6; what++) {
                due("field " + k + " " + what, x.field(1, k, what), told[k][what]);
            }
        }
        due("k", x.field(1, 3, 0), -1);
        due("k", x.field(1, 8, 0), -1);
        due("k", x.field(0, 8, 0), -1);
        due("k", x.field(1, -1, 0), -1);
        due("what", x.field(0, 0, 6), -1);
        due("what", x.field(1, 0, -1), -1);
        due("version", x.field(6, 0, 0), -1);
        due("not there", x.field(0, 7, 5), -3);
    }

    private void sixteen() {
        promise(16);
        define(0, "h:sign[01]=007!;a:box[10]!;b:bit=-000;c:float[]=-10;d:double=0", 5);
        check.due("spelled", Check.spelled(x, 0),
            "h:sign=7!;a:box[10]!;b:bit=0;c:float[]=-10;d:double=0");
        define(1, "a:byte;b:short;c:int[2];d:long", 4);
        check.due("spelled", Check.spelled(x, 1), "a:byte;b:short;c:int[2];d:long");
        due("spell", x.spell(1), 30);
        due("spell", x.spell(6), -1);
        due("spell", x.spell(-1), -1);
        due("spell", x.spell(3), -3);
        due("the paper stays", x.count(7), 30);
    }

    private void seventeen() {
        promise(17);
        due("paper", x.paper(0), -1);
        define(0, "c:int", 1);
        due("spell", x.spell(0), 5);
        due("paper", x.paper(0), 'c');
        due("paper", x.paper(4), 't');
        due("paper", x.paper(5), -1);
        due("paper", x.paper(-1), -1);
        x.drop(0);
        due("the latest one", x.paper(1), ':');
    }

    private void eighteen() {
        promise(18);
        define(2, "a:short[]!;c:box[3];b:long;d:int;e:double[]", 5);
        row(0, 3, 1000, 1001, 1002, 1003);
        x.make(2, 8, 3);
        x.box(2, 0, 1, -3);
        x.box(2, 2, 4, 0);
        row(1, 2, 65535);
        x.make(4, 8, 0);
        // present 0,1,2,4; STEPS of 2 bytes by 1; boxes; 65535 by 3 bytes; no CELLS
        due("pack", x.pack(2), 22);
        wire("0212" + "17" + "04" + "1201" + "03e8" + "010101" + "21fd" + "00" + "50"
            + "0300ffff" + "00" + digestOf("0212170412010" + "3e801010121fd00500300ffff00"));
        row(0, 3, -1, -1, -1, -1, 5, 5, 5, 5, 5, 5);
        x.thing(2, 0);
        x.thing(1, 0);
        x.thing(4, 0);
        x.cut(0);
        due("pack", x.pack(2), 11);
        wire("0207" + "01" + "0a" + "21" + "04ff" + "0605" + digestOf("0207010a2104ff0605"));
        due("count", x.count(8), 2);
        x.thing(0, 0);
        due("needed", x.pack(2), -20);
        stopped(1, 0, 0, -15);
        x.thing(0, 1);
        due("thing", x.pack(2), -20);
        stopped(1, 0, 0, KIND);
        row(0, 3, 1);
        x.make(2, 8, 2);
        due("count", x.pack(2), -20);
        stopped(1, 1, 2, -16);
        x.thing(2, 0);
        row(1, 6, 1);
        due("kind", x.pack(2), -20);
        stopped(1, 2, 0, KIND);
        x.thing(1, 0);
        x.make(4, 8, 1);
        due("boxes as numbers", x.pack(2), -20);
        stopped(1, 4, 0, KIND);
        due("the wire stays", x.wire(-1), 11);
        due("version", x.pack(6), -1);
        due("not there", x.pack(0), -3);
        due("count", x.count(8), 2);
    }

    private static String digestOf(String hex) {
        int z = 7;
        for (int i = 0; i < hex.length(); i += 2) {
            z = 31 * z + Integer.parseInt(hex.substring(i, i + 2), 16);
        }
        return String.format("%04x", z & 0xFFFF);
    }

    /** A BODY of 250 bytes just goes, one of 251 doesn't; a WIRE of 500 just does. */
    private void eighteenFull() {
        promise(18);
        define(0, "a:long[];b:long[];c:box[]", 3);
        long[] wild = new long[16];
        for (int i = 0; i < 16; i++) {
            wild[i] = i % 2 == 0 ? Long.MAX_VALUE - i : 1L << 61;
        }
        row(0, 5, wild);
        row(1, 5, java.util.Arrays.copyOf(wild, 14));
        x.make(2, 8, 4);
        // 1 + 130 + 114 + 1 + 4 = 250
        due("bytes", x.bytes(0), 254);
        due("pack", x.pack(0), 254);
        due("no room", x.pack(0), -4);
        x.box(2, 0, 1, 1);
        due("too long", x.pack(0), -4);
        due("too long", x.bytes(0), -4);
        due("no stop by that", x.stop(0), -3);
        define(1, "h:bit", 1);
        for (int i = 0; i < 49; i++) {
            due("pack", x.pack(1), 5);
        }
        due("no room", x.pack(1), -4);
        due("wire", x.wire(-1), 499);
        x.make(7, 0, 1);
        x.cut(494);
        due("all of the room", x.pack(1), 6);
        due("wire", x.wire(-1), 500);
        due("scan", x.scan(0), 1 + 48 + 1);
        due("scan", x.scan(1), 500);
    }

    private void nineteen() {
        promise(19);
        define(0, "a:int[];b:box[3];c:short;d:long[2]", 4);
        define(1, "c:box;a:double[];e:sign[2]=65;f:byte[]=3;g:bit;b:box[]", 6);
        row(0, 4, 7, -8);
        x.make(1, 8, 3);
        x.box(1, 0, 0, 1);
        x.box(1, 1, 6, 2);
        row(2, 1, -100);
        row(3, 5, 1, 2);
        x.make(6, 4, 3);
        due("pack", x.pack(0) > 0 ? 1 : 0, 1);
        int end = x.wire(-1);
        due("load", x.load(0, 1), end);
        cell(2, 0, 3, -100);
        due("of", x.of(2, 0), 8);
        cell(0, 1, 7, Double.doubleToLongBits(-8));
        cell(4, 0, 2, 65);
        cell(4, 1, 2, 65);
        due("by default, without a number", x.of(5, 0) * 100 + x.of(5, 1), 100);
        due("neither", x.of(6, 0), -5);
        cell(1, 0, 0, 1);
        cell(1, 1, 6, Float.floatToIntBits(2));
        cell(1, 2, 8, 0);
        cell(3, 1, 5, 2);
        due("new rows", x.of(0, 2), 1);
        due("count", x.count(9), 1);
        due("place", x.load(end, 1), -1);
        due("place", x.load(-1, 0), -1);
        due("version", x.load(0, 6), -1);
        due("not there", x.load(1, 3), -3);
        due("lost", x.load(1, 1), -21);
        stopped(3, 1, 1, 0);
        due("count", x.count(10), 1);
    }

    private void refused(String reader, int field, int cell, int why) {
        due("define", Check.define(x, 1, reader) > 0 ? 1 : 0, 1);
        long before = x.digest(-1);
        due("load " + reader, x.load(0, 1), -20);
        stopped(2, field, cell, why);
        due("nothing changes", x.digest(-1), before);
    }

    private void taken(String reader, int slot, int i, int kind, long value) {
        due("define", Check.define(x, 1, reader) > 0 ? 1 : 0, 1);
        due("load " + reader, x.load(0, 1), x.wire(-1));
        cell(slot, i, kind, value);
    }

    private void nineteenRefused() {
        promise(19);
        define(0, "a:int[];b:box[3];c:float;d:bit", 4);
        row(0, 4, 7, -129, 40000);
        x.make(1, 8, 3);
        x.box(1, 0, 1, 9);
        x.box(1, 1, 4, 300);
        row(2, 6, 1);
        row(3, 0, 1);
        x.make(5, 4, 1);
        due("pack", x.pack(0) > 0 ? 1 : 0, 1);
        refused("f:byte;a:int[2]", 1, 3, -16);
        refused("f:byte=1;h:byte!", 1, 0, -15);
        refused("f:byte=1;e:byte=2!", 1, 0, -15);
        refused("a:byte[]", 0, 0, KIND);
        refused("a:bit[]", 0, 0, KIND);
        refused("b:long[]", 0, 2, -18);
        refused("b:byte[]", 0, 1, KIND);
        refused("c:long", 0, 0, KIND);
        refused("d:long", 0, 0, KIND);
        x.lax(1);
        refused("a:byte[]", 0, 1, -17);
        refused("a:sign[]", 0, 1, -17);
        refused("a:short[]", 0, 2, -17);
        refused("a:bit[]", 0, 0, KIND);
        refused("b:byte[]", 0, 1, -17);
        refused("b:short[]", 0, 2, -18);
        refused("b:bit[]", 0, 0, KIND);
        refused("c:long", 0, 0, KIND);
        refused("d:int", 0, 0, KIND);
        taken("a:int[3]", 0, 2, 4, 40000);
        taken("a:float[]", 0, 1, 6, Float.floatToIntBits(-129));
        taken("a:box[]", 0, 1, 4, -129);
        taken("d:box", 3, 0, 0, 1);
        taken("c:double", 2, 0, 7, Double.doubleToLongBits(1));
        due("others stay", x.of(5, 0), 4);
        due("count", x.count(9), 5);
        due("count", x.count(10), 0);
    }

    private void twenty() {
        promise(20);
        for (int what = 0; what < 4; what++) {
            due("stop", x.stop(what), -3);
        }
        due("stop", x.stop(4), -1);
        due("stop", x.stop(-1), -1);
        define(0, "a:int;b:int!", 2);
        due("pack", x.pack(0), -20);
        stopped(1, 1, 0, -15);
        due("in thought", x.bytes(0) + x.trip(0, 0), -40);
        row(1, 4, 5);
        due("pack", x.pack(0), 7);
        stopped(1, 1, 0, -15);
        x.poke(6, x.wire(6) ^ 1);
        due("frame", x.frame(0, 0), 3);
        stopped(1, 1, 0, -15);
        due("load", x.load(0, 0), -21);
        stopped(3, 3, 5, 0);
        x.poke(6, x.wire(6) ^ 1);
        define(1, "b:bit", 1);
        due("load", x.load(0, 1), -20);
        stopped(2, 0, 0, KIND);
        due("stop", x.stop(4), -1);
        x.image();
        x.back();
        stopped(2, 0, 0, KIND);
    }

    private void twentyOne() {
        promise(21);
        due("wire", x.wire(-1), 0);
        due("wire", x.wire(0), -1);
        define(3, "a:bit", 1);
        due("pack", x.pack(3), 5);
        due("wire", x.wire(-1), 5);
        wire("030100" + digestOf("030100"));
        due("wire", x.wire(5), -1);
        due("wire", x.wire(-2), -1);
        due("poke", x.poke(4, 255) >= 0 ? 1 : 0, 1);
        due("wire", x.wire(4), 255);
    }

    private void twentyTwo() {
        promise(22);
        define(3, "a:bit", 1);
        due("none", x.poke(0, 0), -1);
        x.pack(3);
        due("poke", x.poke(0, 200), 3);
        due("poke", x.poke(0, 0), 200);
        due("poke", x.poke(5, 256), -1);
        due("poke", x.poke(-1, 0), -1);
        due("poke", x.poke(1, 256), -2);
        due("poke", x.poke(1, -1), -2);
        due("wire", x.wire(1), 1);
    }

    private void twentyThree() {
        promise(23);
        due("cut", x.cut(0), 0);
        due("cut", x.cut(1), -2);
        define(3, "a:bit", 1);
        x.pack(3);
        x.pack(3);
        due("cut", x.cut(11), -2);
        due("cut", x.cut(-1), -2);
        due("cut", x.cut(10), 0);
        due("cut", x.cut(7), 3);
        due("wire", x.wire(-1), 7);
        due("scan", x.scan(0), 1);
        due("scan", x.scan(2), 2);
        due("cut", x.cut(0), 7);
    }

    /** The BODY of a FRAME by VERSION 0 is LOST by a FAULT, at a place of the BODY. */
    private void lost(int fault, int place, int... body) {
        Check.wireOf(x, 0, body);
        String text = "body " + java.util.Arrays.toString(body);
        due(text, x.frame(0, 0), fault);
        due(text, x.frame(0, 1), fault == 0 ? -5 : 2 + place);
        due(text, x.frame(0, 6), fault == 0 ? body.length + 4 : -5);
        due(text, x.load(0, 0), fault == 0 ? body.length + 4 : -21);
        if (fault != 0) {
            stopped(3, fault, 2 + place, 0);
        }
        x = renewed();
    }

    private String schema = "";

    private RowMarshal renewed() {
        RowMarshal fresh = new RowMarshal();
        Check.define(fresh, 0, schema);
        return fresh;
    }

    private void bodies(String newSchema) {
        schema = newSchema;
        x = renewed();
    }

    private void twentyFour() {
        promise(24);
        define(4, "a:int[];b:box[2];c:bit", 3);
        row(0, 4, 1, 2, 3);
        x.make(1, 8, 2);
        due("place", x.frame(0, 0), -1);
        due("pack", x.pack(4), 12);
        int[] told = {0, -5, 4, 8, 2, 5, 12};
        for (int what = 0; what < 7; what++) {
            due("frame " + what, x.frame(0, what), told[what]);
        }
        due("what", x.frame(0, 7), -1);
        due("what", x.frame(0, -1), -1);
        due("place", x.frame(12, 0), -1);
        due("place", x.frame(-1, 0), -1);
        due("the last byte alone", x.poke(11, 4) >= 0 ? x.frame(11, 0) : 0, 2);
        due("its length isn't there", x.frame(11, 1), 12);
        due("lost", x.frame(11, 2), -5);
        due("the digest", x.frame(0, 0), 3);
        due("where it begins", x.frame(0, 1), 10);
        x.poke(1, 251);
        due("length", x.frame(0, 0), 2);
        x.poke(1, 9);
        due("beyond the wire", x.frame(0, 0), 2);
        due("length's place", x.frame(0, 1), 1);
        x.poke(0, 6);
        due("no version", x.frame(0, 0), 1);
        due("its place", x.frame(0, 1), 0);
        x.poke(0, 0);
        due("none that is there", x.frame(0, 0), 1);
    }

    private void twentyFourBodies() {
        promise(24);
        bodies("a:int[];b:byte!");
        lost(5, 0);
        lost(4, 0, 6);
        lost(4, 0, 1);
        lost(4, 0, 0);
        lost(0, 0, 2, 0);
        lost(0, 0, 2, 1, 127);
        lost(6, 2, 2, 2, 0, 128);
        lost(0, 0, 2, 2, 255, 128);
        lost(5, 2, 2, 1);
        lost(5, 1, 2);
        lost(7, 2, 2, 0, 0);
        lost(7, 3, 2, 1, 5, 9, 9);
        lost(4, 1, 2, 0x10, 0);
        lost(4, 1, 2, 0x30);
        lost(4, 1, 2, 0x09);
        lost(4, 1, 3, 17);
        lost(0, 0, 3, 0, 0);
        lost(0, 0, 3, 16, 0, 0);
        lost(4, 3, 3, 2, 0x10, 9);
        lost(5, 3, 3, 2, 0x10);
        lost(0, 0, 3, 2, 0x10, 0, 0);
        lost(6, 8, 3, 2, 0x14, 1, 127, 255, 255, 255, 1, 0);
        lost(5, 8, 3, 2, 0x14, 1, 127, 255, 255, 255);
        lost(4, 3, 3, 2, 0x21, 0, 1, 0);
        lost(4, 3, 3, 2, 0x21, 3, 1, 0);
        lost(4, 5, 3, 2, 0x21, 1, 1, 2, 1, 0);
        lost(0, 0, 3, 2, 0x21, 1, 1, 1, 1, 0);
        lost(0, 0, 3, 2, 0x20, 2, 0x20, 1);
        lost(5, 4, 3, 2, 0x21, 2);
        lost(6, 3, 3, 2, 5, 1, 0, 0, 0, 0, 0, 0, 0, 0);
        bodies("a:bit[3]");
        lost(0, 0, 1, 0x11, 1, 1, 255, 1);
        lost(6, 4, 1, 0x11, 1, 1, 1, 0);
        lost(6, 2, 1, 1, 255);
        bodies("a:sign");
        lost(6, 2, 1, 1, 255);
        lost(6, 2, 1, 3, 1, 0, 0);
        lost(0, 0, 1, 3, 0, 255, 255);
        lost(0, 0, 1, 0);
        bodies("a:float");
        lost(6, 2, 1, 4, 0x7F, 0x80, 0, 0);
        lost(6, 2, 1, 4, 0xFF, 0x80, 0, 0);
        lost(6, 2, 1, 4, 0x7F, 0xC0, 0, 0);
        lost(6, 2, 1, 5, 0, 0x80, 0, 0, 0);
        lost(0, 0, 1, 4, 0x7F, 0x7F, 255, 255);
        lost(0, 0, 1, 4, 0x80, 0, 0, 0);
        bodies("a:double");
        lost(6, 2, 1, 8, 0x7F, 0xF0, 0, 0, 0, 0, 0, 0);
        lost(6, 2, 1, 8, 0xFF, 0xF8, 0, 0, 0, 0, 0, 1);
        lost(0, 0, 1, 8, 0x7F, 0xEF, 0, 0, 0, 0, 0, 1);
        bodies("a:long[2]");
        lost(0, 0, 1, 0x18, 1, 0x7F, 255, 255, 255, 255, 255, 255, 255, 1);
        lost(0, 0, 1, 0x10, 8, 0x80, 0, 0, 0, 0, 0, 0, 0);
        bodies("a:box[2]");
        lost(0, 0, 1, 0, 0);
        lost(4, 1, 1, 1, 0, 0);
        lost(4, 1, 1, 15, 0);
        lost(4, 2, 1, 0, 0x90);
        lost(4, 2, 1, 0, 0x19);
        lost(6, 2, 1, 0x11, 2, 0);
        lost(6, 2, 1, 0x22, 0, 200, 0);
        lost(0, 0, 1, 0x81, 1, 0x75, 255, 128, 0, 0, 0);
        lost(6, 4, 1, 0x81, 1, 0x75, 255, 255, 255, 255, 255);
        lost(5, 3, 1, 0x52, 0);
        lost(5, 2, 1, 0);
        lost(7, 3, 1, 0, 0, 0);
        lost(0, 0, 1, 0, 0x88, 0x7F, 0xEF, 255, 255, 255, 255, 255, 255);
        lost(0, 0, 1, 0, 0x68, 0x80, 0, 0, 0, 0, 0, 0, 0);
    }

    private void twentyFive() {
        promise(25);
        define(0, "a:int[];b:int!", 2);
        due("refused", x.bytes(0), -20);
        row(1, 4, 0);
        due("bytes", x.bytes(0), 6);
        row(0, 4, 128, 0, 0, 0, 0);
        // PLAIN 11, STEPS 12, RUNS 7, and how many CELLS
        due("bytes", x.bytes(0), 14);
        due("version", x.bytes(6), -1);
        due("version", x.bytes(-1), -1);
        due("not there", x.bytes(1), -3);
        due("no wire", x.wire(-1), 0);
        due("no count", x.count(8), 0);
    }

    private void planned(int mode, int w, int d, int size, long... values) {
        row(0, 5, values);
        due("mode", x.mode(0, 0, 0), mode);
        due("w", x.mode(0, 0, 1), w);
        due("d", x.mode(0, 0, 2), d);
        due("size", x.mode(0, 0, 3), size);
    }

    private void twentySix() {
        promise(26);
        define(0, "a:long[];b:box;c:int[2];d:int!;e:float", 5);
        planned(0, 0, -5, 1, 0, 0, 0);
        planned(0, 1, -5, 2, 127);
        planned(0, 1, -5, 2, -128);
        planned(0, 2, -5, 3, 128);
        planned(0, 8, -5, 9, Long.MIN_VALUE);
        planned(0, 7, -5, 8, (1L << 55) - 1);
        planned(0, 8, -5, 9, 1L << 55);
        // of like ones the least: PLAIN 5 and STEPS 5, RUNS 5 and PLAIN 5
        planned(0, 2, -5, 5, 300, 301);
        planned(1, 2, 1, 6, 300, 301, 302);
        planned(0, 1, -5, 5, 9, 9, 4, 4);
        // STEPS 4 and RUNS 4
        planned(1, 2, 0, 4, 300, 300);
        planned(1, 1, 0, 3, 3, 3, 3);
        planned(2, 1, -5, 5, 9, 9, 9, 4, 4, 4);
        // steps that wrap: -1 away from the lowest one is the highest
        planned(1, 8, 1, 12, Long.MIN_VALUE, Long.MAX_VALUE, Long.MIN_VALUE);
        planned(1, 0, 1, 5, 0, 127, 254, 381);
        due("nothing", x.mode(0, 2, 0), -5);
        x.thing(0, 1);
        due("thing", x.mode(0, 0, 0), KIND);
        x.make(0, 5, 0);
        due("no cells", x.mode(0, 0, 0), -5);
        x.make(1, 4, 1);
        due("box", x.mode(0, 1, 0), -5);
        x.make(2, 4, 0);
        due("no cells ahead of count", x.mode(0, 2, 0), -5);
        x.make(2, 8, 1);
        due("count ahead of a cell", x.mode(0, 2, 0), -16);
        x.make(2, 8, 2);
        due("boxes", x.mode(0, 2, 0), KIND);
        x.make(2, 5, 2);
        due("longs", x.mode(0, 2, 0), KIND);
        due("needed and nothing", x.mode(0, 3, 0), -5);
        row(4, 4, 1);
        due("whatever is refused ahead", x.mode(0, 4, 1), 4);
        due("k", x.mode(0, 5, 0), -1);
        due("k", x.mode(1, 8, 0), -1);
        due("k", x.mode(0, -1, 0), -1);
        due("what", x.mode(1, 0, 4), -1);
        due("what", x.mode(0, 0, -1), -1);
        due("version", x.mode(6, 0, 0), -1);
        due("not there", x.mode(1, 7, 0), -3);
    }

    private void twentySeven() {
        promise(27);
        due("smallest", x.smallest(), -5);
        define(5, "a:int[]", 1);
        due("smallest", x.smallest(), 5);
        define(2, "a:int[]", 1);
        due("of like ones", x.smallest(), 2);
        row(0, 4, 1, 2);
        define(3, "a:int[2]", 1);
        due("smallest", x.smallest(), 3);
        define(0, "b:int!", 1);
        due("smallest", x.smallest(), 3);
        define(0, "b:int", 1);
        due("smallest", x.smallest(), 0);
        x.thing(1, 1);
        due("refused", x.smallest(), 3);
        x.thing(0, 1);
        due("all refused", x.smallest(), -5);
        due("no stop", x.stop(0), -3);
    }

    private void twentyEight() {
        promise(28);
        for (int what = 0; what < 3; what++) {
            due("scan", x.scan(what), 0);
        }
        define(0, "a:int", 1);
        define(1, "b:int", 1);
        x.pack(0);
        row(1, 4, 300);
        x.pack(1);
        x.pack(0);
        due("scan", x.scan(0), 3);
        due("scan", x.scan(1), 18);
        due("scan", x.scan(2), 0);
        x.drop(1);
        due("scan", x.scan(0), 1);
        due("scan", x.scan(1), 5);
        due("scan", x.scan(2), 1);
        x.cut(6);
        define(1, "b:int", 1);
        due("scan", x.scan(2), 2);
        due("scan", x.scan(1), 5);
        due("scan", x.scan(3), -1);
        due("scan", x.scan(-1), -1);
        due("no count", x.count(10), 0);
    }

    private void twentyNine() {
        promise(29);
        due("found", x.found(0), -1);
        define(2, "a:int", 1);
        x.pack(2);
        row(0, 4, 300);
        x.pack(2);
        due("found", x.found(0), 0);
        due("found", x.found(1), 5);
        due("found", x.found(5), 5);
        due("found", x.found(6), -5);
        due("found", x.found(13), -1);
        due("found", x.found(-1), -1);
        x.poke(2, 1);
        due("found behind a lost one", x.found(0), 5);
        x.poke(8, 1);
        due("found", x.found(0), -5);
    }

    private void fits(String writer, String reader, int want) {
        define(0, writer, 1);
        define(1, reader, 1);
        due(writer + " to " + reader, x.fit(0, 1, 0), want);
    }

    private void thirty() {
        promise(30);
        fits("a:int", "b:int!", 5);
        fits("a:int", "b:int=1!", 5);
        fits("a:int", "b:int=1", 3);
        fits("a:int", "b:int", 4);
        fits("a:int", "a:int", 0);
        fits("a:int[2]", "a:int", 5);
        fits("a:int[2]", "a:int[]", 0);
        fits("a:int[]", "a:int[2]", 2);
        fits("a:int", "a:int!", 2);
        fits("a:int!", "a:int!", 0);
        fits("a:int!", "a:int", 0);
        x = new RowMarshal();
        fits("a:box", "a:int", 2);
        fits("a:int", "a:box", 1);
        fits("a:bit", "a:box", 1);
        fits("a:box", "a:box", 0);
        fits("a:int", "a:long", 1);
        fits("a:long", "a:int", 2);
        fits("a:sign", "a:short", 2);
        fits("a:bit", "a:int", 5);
        fits("a:int", "a:bit", 5);
        fits("a:float", "a:long", 5);
        fits("a:double", "a:float", 5);
        fits("a:long", "a:float", 1);
        fits("a:box[]", "a:box[3]", 2);
        fits("a:box", "a:box[3]", 5);
        due("k", x.fit(0, 1, 1), -1);
        due("k", x.fit(0, 1, 8), -1);
        due("k", x.fit(0, 5, 8), -1);
        due("k", x.fit(0, 1, -1), -1);
        due("version", x.fit(6, 1, 0), -1);
        due("version", x.fit(0, -1, 0), -1);
        due("not there", x.fit(5, 1, 0), -3);
        due("not there", x.fit(0, 5, 7), -3);
    }

    private void thirtyOne() {
        promise(31);
        define(0, "a:int[];b:float", 2);
        define(1, "a:double[];c:byte[2]=1;b:box", 3);
        row(0, 4, 1, 2, 3);
        row(1, 6, 5);
        row(2, 4, 1, 9);
        row(6, 8);
        x.make(6, 8, 4);
        x.thing(7, 1);
        due("a, b, the first of c, g", x.trip(0, 1), 3 + 1 + 1 + 4);
        row(2, 0, 1, 1);
        due("bits are no numbers", x.trip(0, 1), 3 + 1 + 4);
        x.same(5, 6);
        due("each slot counts", x.trip(0, 1), 3 + 1 + 8);
        define(2, "b:float;a:float", 2);
        due("count", x.trip(0, 2), -20);
        due("count", x.trip(2, 0), -20);
        row(0, 4, 16777217);
        due("as floats not the same", x.trip(0, 2), 0 + 1 + 2 + 8);
        define(3, "h:int", 1);
        due("a thing", x.trip(3, 0), -20);
        due("not there", x.trip(4, 0), -3);
        due("not there", x.trip(0, 4), -3);
        due("version", x.trip(6, 0), -1);
        due("version", x.trip(4, -1), -1);
        due("in thought", x.of(1, 0), 6);
        due("no stop", x.stop(0), -3);
        due("no wire", x.wire(-1), 0);
        define(4, "d:int", 1);
        due("a, b, f, g are others", x.trip(4, 3), 1 + 1 + 2 + 8);
        due("a, b go", x.trip(4, 0), 2 + 8);
        x = new RowMarshal();
        define(0, "a:int[]", 1);
        define(1, "a:byte[]", 1);
        row(0, 4, 1, 2);
        due("not lax", x.trip(0, 1), -20);
        x.lax(1);
        due("lax", x.trip(0, 1), 2);
        x.write(0, 1, 4, 128);
        due("range", x.trip(0, 1), -20);
    }

    private void thirtyOneFull() {
        promise(31);
        define(0, "a:long[];b:long[]", 2);
        define(1, "a:int[]", 1);
        define(2, "a:long[]", 1);
        long[] wild = new long[16];
        for (int i = 0; i < 16; i++) {
            wild[i] = i % 2 == 0 ? Long.MAX_VALUE - i : 1L << 61;
        }
        row(0, 5, wild);
        row(1, 5, wild);
        due("full", x.trip(0, 2), -4);
        due("refused is named first", x.trip(0, 1), -20);
        due("trip", x.trip(2, 2), 32);
        define(3, "a:long[];b:long[];c:box[]", 3);
        row(1, 5, java.util.Arrays.copyOf(wild, 14));
        x.make(2, 8, 4);
        due("a body of 250", x.trip(3, 3), 16 + 14 + 4);
        x.make(2, 8, 5);
        due("one of 251", x.trip(3, 3), -4);
    }

    private void thirtyTwo() {
        promise(32);
        row(0, 4, 1, 2, 3);
        row(1, 7, 1, 2, 3);
        row(2, 5, 1, 2);
        row(3, 0, 1);
        x.make(4, 8, 2);
        x.thing(5, 1);
        due("alike", x.alike(0, 1), -5);
        due("one hasn't", x.alike(0, 2), 2);
        due("one hasn't", x.alike(2, 0), 2);
        due("a bit", x.alike(0, 3), 0);
        due("missing", x.alike(0, 4), 0);
        due("missing", x.alike(4, 4), -5);
        x.box(4, 0, 1, 1);
        due("then missing", x.alike(4, 2), 1);
        due("nothing", x.alike(5, 6), NOTHING);
        due("nothing", x.alike(6, 5), NOTHING);
        due("thing", x.alike(0, 5), KIND);
        due("thing", x.alike(5, 5), KIND);
        due("slot", x.alike(8, 6), -1);
        due("slot", x.alike(0, -1), -1);
        row(0, 5, 9007199254740993L);
        row(1, 7, 9007199254740992L);
        row(2, 5, 9007199254740992L);
        due("as doubles", x.alike(0, 1), -5);
        due("as longs", x.alike(0, 2), 0);
        row(2, 6, 0);
        x.real(1, 0, 7, 0, -1);
        due("noughts", x.alike(1, 2), -5);
        due("a nought and none", x.alike(1, 0), 0);
        row(2, 6, 1);
        due("none and a nought", x.alike(1, 2), 0);
        row(2, 0, 0);
        x.make(3, 8, 1);
        due("a bit and missing", x.alike(2, 3), 0);
        x.box(3, 0, 4, 0);
        due("a bit and nought", x.alike(3, 2), 0);
        x.make(2, 6, 1);
        x.real(1, 0, 7, 1, 3);
        x.real(2, 0, 6, 1, 3);
        due("a third", x.alike(1, 2), 0);
        row(1, 2, 65);
        row(2, 1, 65);
        due("sign and byte", x.alike(1, 2), -5);
        x.make(1, 4, 0);
        x.make(2, 8, 0);
        due("none and none", x.alike(1, 2), -5);
        row(1, 0, 1);
        row(2, 0, 1);
        due("bits", x.alike(1, 2), -5);
        row(2, 0, 0);
        due("bits", x.alike(1, 2), 0);
    }

    private void thirtyThree() {
        promise(33);
        due("nothing", x.digest(0), 218);
        x.thing(0, 1);
        due("thing", x.digest(0), 219);
        x.make(0, 4, 0);
        due("row", x.digest(0), (217 + 7) * 31);
        row(0, 4, -1);
        due("row", x.digest(0), ((224L * 31 + 1) * 31 + 4) * 31 - 1);
        x.make(1, 8, 1);
        due("missing", x.digest(1), ((228L * 31 + 1) * 31 + 8) * 31);
        x.box(1, 0, 4, -1);
        due("a box", x.digest(1), ((228L * 31 + 1) * 31 + 4) * 31 - 1);
        long z = 7;
        for (int s = 0; s < 8; s++) {
            z = 31 * z + x.digest(s);
        }
        due("all", x.digest(-1), z);
        due("slot", x.digest(8), RowMarshal.NO);
        due("slot", x.digest(-2), RowMarshal.NO);
    }

    private void thirtyFour() {
        promise(34);
        due("image", x.image(), 0);
        row(0, 4, 1);
        row(1, 4, 1);
        x.same(2, 0);
        x.thing(3, 1);
        due("image", x.image(), 2);
        x.thing(0, 0);
        due("image", x.image(), 2);
        x.thing(2, 0);
        due("image", x.image(), 1);
    }

    private void thirtyFive() {
        promise(35);
        due("back", x.back(), -3);
        row(0, 4, 1, 2);
        x.same(5, 0);
        x.make(1, 8, 2);
        x.box(1, 1, 3, 7);
        x.thing(2, 1);
        define(0, "a:int[]", 1);
        x.pack(0);
        x.lax(1);
        long before = x.digest(-1);
        due("image", x.image(), 2);
        for (int turn = 0; turn < 2; turn++) {
            x.write(0, 0, 4, 99);
            x.box(1, 1, 8, 0);
            x.thing(2, 0);
            x.make(6, 3, 3);
            x.lax(0);
            x.poke(0, 77);
            x.pack(0);
            define(0, "b:bit", 1);
            define(3, "b:bit", 1);
            Check.feed(x, "abc");
            x.spell(3);
            x.read(6, 0, 8);
            due("back", x.back(), 2);
            due("digest", x.digest(-1), before);
            due("of", x.of(0, 2), 2);
            due("write", x.write(5, 1, 4, 50 + turn), 1);
            cell(0, 1, 4, 50 + turn);
            due("lax", x.lax(1), 1);
            due("wire", x.wire(0), 0);
            due("wire", x.wire(-1), 9);
            due("version", x.field(0, 0, 0), 0);
            due("version", x.field(3, 0, 0), -3);
            due("paper stays", x.count(7), 5);
            due("tape stays", x.count(5), 3);
            x.define(4);
            x.back();
            due("digest", x.digest(-1), before);
        }
        due("counts stay", x.count(8), 3);
    }

    private void thirtySix() {
        promise(36);
        row(0, 4, 1, 2);
        x.same(5, 0);
        x.make(1, 8, 3);
        x.thing(2, 1);
        x.same(3, 2);
        x.same(6, 2);
        define(0, "a:int[]", 1);
        define(1, "a:int[];e:bit", 2);
        define(4, "b:int[]", 1);
        Check.feed(x, "ab");
        x.spell(1);
        due("pack", x.pack(1), 9);
        x.pack(1);
        x.load(0, 1);
        x.load(9, 1);
        x.load(1, 1);
        x.load(1, 4);
        x.load(2, 4);
        x.load(0, 4);
        x.read(4, 0, 0);
        x.write(4, 0, 0, 0);
        x.real(4, 0, 6, 1, 1);
        x.box(4, 0, 8, 0);
        x.read(2, 0, 0);
        x.box(2, 0, 0, 0);
        x.write(0, 0, 7, 0);
        x.read(1, 3, 8);
        x.write(0, -1, 4, 8);
        x.read(8, 0, 0);
        x.real(0, 0, 7, 1, 0);
        // load() has given a a ROW of its own, beside the one that f holds, and b NOTHING
        int[] told = {2, 3, 2, 4, 3, 2, 18, 13, 2, 3, 3};
        for (int what = 0; what < told.length; what++) {
            due("count " + what, x.count(what), told[what]);
        }
        due("count 11", x.count(11), 5);
        due("count 12", x.count(12), 3);
        due("count 13", x.count(13), 1);
        due("count", x.count(14), -1);
        due("count", x.count(-1), -1);
        due("count", x.count(LOW), -1);
        due("count", x.count(HIGH), -1);
    }

    private void all() {
        one();
        two();
        three();
        four();
        five();
        six();
        sixSubnormal();
        seven();
        eight();
        eightNearest();
        nine();
        ten();
        eleven();
        twelve();
        thirteen();
        fourteen();
        fifteen();
        sixteen();
        seventeen();
        eighteen();
        eighteenFull();
        nineteen();
        nineteenRefused();
        twenty();
        twentyOne();
        twentyTwo();
        twentyThree();
        twentyFour();
        twentyFourBodies();
        twentyFive();
        twentySix();
        twentySeven();
        twentyEight();
        twentyNine();
        thirty();
        thirtyOne();
        thirtyOneFull();
        thirtyTwo();
        thirtyThree();
        thirtyFour();
        thirtyFive();
        thirtySix();
        check.end();
    }

    public static void main(String[] args) {
        new PromisesTest().all();
    }
}
