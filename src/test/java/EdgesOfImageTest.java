/** The boundary cases of promises 34 to 36: THE IMAGE, and what is counted. */
public final class EdgesOfImageTest extends Scene {
    private EdgesOfImageTest() {
    }

    private void image() {
        sentence("34: how many unlike ROWS there are: none");
        due("image", x.image(), 0);
        x.thing(0, 1);
        due("a THING is none", x.image(), 0);
        sentence("34: how many unlike ROWS there are: eight");
        for (int s = 0; s < 8; s++) {
            x.make(s, INT, 0);
            due("image", x.image(), s + 1);
        }
        sentence("34: how many unlike ROWS there are: one that all hold");
        x.make(0, INT, 1);
        for (int s = 1; s < 8; s++) {
            x.same(s, 0);
            due("image", x.image(), 1);
        }
        sentence("34: like ROWS that aren't the very same are two");
        row(0, INT, 5);
        row(1, INT, 5);
        due("image", x.image(), 2);
        sentence("34: THE IMAGE changes nothing");
        usual();
        String before = state();
        String stops = stopAndTallies();
        due("image", x.image(), 3);
        check.due("state", state(), before);
        check.due("stop and tallies", stopAndTallies(), stops);
        due("of", x.of(0, 2), 2);
    }

    private void backState() {
        sentence("35: STATE, there is none");
        due("back", x.back(), STATE);
        usual();
        String before = state();
        due("back", x.back(), STATE);
        check.due("state", state(), before);
        due("image", x.image(), 3);
        due("back", x.back(), 3);
        due("and again", x.back(), 3);
        sentence("35: an IMAGE of an empty object is one");
        due("image", x.image(), 0);
        usual();
        due("back", x.back(), 0);
        for (int s = 0; s < 8; s++) {
            due("of", x.of(s, 0), NO_SUCH);
        }
        due("wire", x.wire(-1), 0);
        due("versions", x.count(4), 0);
        due("lax", x.lax(0), 0);
        sentence("35: another object's IMAGE is none of it");
        x.image();
        x = new RowMarshal();
        due("back", x.back(), STATE);
    }

    private void back() {
        sentence("35: SLOTS with their ROWS and CELLS, as they were then");
        row(0, INT, 1, 2);
        x.make(1, BOX, 2);
        x.box(1, 0, BYTE, 7);
        x.thing(2, 1);
        long digest = x.digest(-1);
        x.image();
        x.write(0, 1, INT, 9);
        x.box(1, 0, BOX, 0);
        x.box(1, 1, LONG, 5);
        x.thing(2, 0);
        x.make(7, BIT, 16);
        due("back", x.back(), 2);
        cell(0, 1, INT, 2);
        cell(1, 0, BYTE, 7);
        cell(1, 1, BOX, 0);
        due("of", x.of(2, 0), THING);
        due("of", x.of(7, 0), NO_SUCH);
        due("digest", x.digest(-1), digest);
        sentence("35: what is written behind back() isn't in THE IMAGE");
        row(0, INT, 1, 2);
        x.image();
        x.back();
        x.write(0, 1, INT, 9);
        cell(0, 1, INT, 9);
        x.back();
        cell(0, 1, INT, 2);
        sentence("35: ... of real(), box(), load() neither");
        row(0, FLOAT, 1);
        row(1, DOUBLE, 1);
        define(0, "a:float");
        x.pack(0);
        x.image();
        x.real(0, 0, FLOAT, 1, 2);
        x.box(1, 0, BYTE, 9);
        x.back();
        cell(0, 0, FLOAT, 0x3F800000);
        cell(1, 0, DOUBLE, 0x3FF0000000000000L);
        x.write(0, 0, INT, 5);
        x.back();
        cell(0, 0, FLOAT, 0x3F800000);
        sentence("==== 5: (those held by several are so again)");
        row(0, INT, 1);
        x.same(3, 0);
        x.same(7, 0);
        row(1, INT, 1);
        x.image();
        row(3, INT, 1);
        x.thing(7, 0);
        x.same(1, 0);
        due("back", x.back(), 2);
        due("of", x.of(0, 2), 3);
        due("of", x.of(1, 2), 1);
        x.write(7, 0, INT, 8);
        cell(0, 0, INT, 8);
        cell(3, 0, INT, 8);
        cell(1, 0, INT, 1);
        x.back();
        x.write(0, 0, INT, 6);
        cell(7, 0, INT, 6);
        sentence("35: the latest IMAGE alone");
        row(0, INT, 1);
        x.image();
        row(0, INT, 2);
        x.same(1, 0);
        x.image();
        row(0, INT, 3);
        due("back", x.back(), 1);
        cell(0, 0, INT, 2);
        due("of", x.of(0, 2), 2);
    }

    private void backOfTheRest() {
        sentence("==== 5: THE IMAGE, VERSIONS");
        define(0, "a:int");
        define(1, "b:int");
        x.image();
        x.drop(0);
        define(1, "c:int[3]=7!");
        define(2, "d:int");
        x.back();
        check.due("spelled", Check.spelled(x, 0), "a:int");
        check.due("spelled", Check.spelled(x, 1), "b:int");
        due("spell", x.spell(2), STATE);
        due("versions", x.count(4), 2);
        sentence("==== 5: THE IMAGE, VERSIONS: all six");
        for (int v = 0; v < 6; v++) {
            define(v, (char) ('a' + v) + ":int[]");
        }
        x.image();
        for (int v = 0; v < 6; v++) {
            x.drop(v);
        }
        x.back();
        for (int v = 0; v < 6; v++) {
            check.due("spelled", Check.spelled(x, v), (char) ('a' + v) + ":int[]");
        }
        sentence("==== 5: THE IMAGE, THE WIRE: longer, shorter, spoiled since");
        define(0, "a:byte");
        row(0, BYTE, 5);
        x.pack(0);
        x.image();
        x.pack(0);
        x.back();
        framed(0, "010105");
        x.poke(3, 99);
        x.back();
        framed(0, "010105");
        x.cut(0);
        x.back();
        framed(0, "010105");
        x.cut(2);
        x.pack(0);
        x.back();
        framed(0, "010105");
        sentence("==== 5: THE IMAGE, THE WIRE: all its 500 bytes, none");
        define(0, "a:bit");
        x.image();
        for (int i = 0; i < 100; i++) {
            x.pack(0);
        }
        x.poke(499, 77);
        x.back();
        due("wire", x.wire(-1), 0);
        for (int i = 0; i < 100; i++) {
            x.pack(0);
        }
        x.poke(499, 77);
        x.image();
        x.cut(0);
        x.back();
        due("wire", x.wire(-1), 500);
        due("wire", x.wire(499), 77);
        due("scan", x.scan(0), 99);
        sentence("==== 5: THE IMAGE, LAX");
        x.lax(1);
        x.image();
        x.lax(0);
        x.back();
        due("lax", x.lax(0), 1);
        x.image();
        x.lax(1);
        x.back();
        due("lax", x.lax(0), 0);
        sentence("==== 5: what THE IMAGE doesn't hold stays: LATCH, TAPE, PAPER, STOP");
        row(0, INT, 5);
        define(0, "a:int");
        define(1, "b:int!");
        x.image();
        x.read(0, 0, LONG);
        Check.feed(x, "a:int");
        x.spell(0);
        x.pack(1);
        x.back();
        latched(LONG, 5);
        due("tape", x.count(5), 5);
        due("define", x.define(2), 1);
        due("paper", x.count(7), 5);
        due("paper", x.paper(0), 'a');
        stopped(1, 0, 0, NEEDED);
    }

    private void counted(int... dues) {
        for (int what = 0; what < dues.length; what++) {
            due("count " + what, x.count(what), dues[what]);
        }
    }

    private void count() {
        sentence("36: NONE, what (0 .. 13)");
        counted(0, 0, 0, 0, 0, 0, 0, 0, 0, 0, 0, 0, 0, 0, NONE);
        due("count", x.count(-1), NONE);
        for (int far : FAR) {
            due("count", x.count(far), NONE);
        }
        sentence("36: 0 SLOTS that hold ROWS, 1 THINGS, 2 unlike ROWS, 3 CELLS of these");
        x.make(0, INT, 0);
        counted(1, 0, 1, 0);
        x.make(1, BOX, 16);
        counted(2, 0, 2, 16);
        x.same(2, 1);
        counted(3, 0, 2, 16);
        x.thing(3, 1);
        counted(3, 1, 2, 16);
        x.thing(0, 1);
        counted(2, 2, 1, 16);
        x.thing(1, 0);
        counted(1, 2, 1, 16);
        x.thing(2, 0);
        counted(0, 2, 0, 0);
        sentence("36: all SLOTS: eight ROWS of 16 CELLS, one, eight THINGS");
        for (int s = 0; s < 8; s++) {
            x.make(s, INT, 16);
        }
        counted(8, 0, 8, 128);
        for (int s = 0; s < 8; s++) {
            x.same(s, 7);
        }
        counted(8, 0, 1, 16);
        for (int s = 0; s < 8; s++) {
            x.thing(s, 1);
        }
        counted(0, 8, 0, 0);
        sentence("36: 4 VERSIONS that are there");
        for (int v = 0; v < 6; v++) {
            define(v, "a:int");
            due("count", x.count(4), v + 1);
        }
        define(3, "b:int");
        due("count", x.count(4), 6);
        x.drop(3);
        due("count", x.count(4), 5);
        Check.define(x, 2, "b:");
        due("count", x.count(4), 5);
        sentence("36: 5 bytes of THE TAPE, 6 of THE WIRE, 7 of THE PAPER");
        x.feed(3, 0x616161);
        due("count", x.count(5), 3);
        x.define(0);
        due("count", x.count(5), 0);
        define(0, "a:int[]");
        x.pack(0);
        due("count", x.count(6), 5);
        x.cut(2);
        due("count", x.count(6), 2);
        x.spell(0);
        due("count", x.count(7), 7);
        x.drop(0);
        due("count", x.count(7), 7);
    }

    private void countFrames() {
        sentence("36: 8 FRAMES PACKED by pack(): not what is REFUSED, FULL, in thought");
        define(0, "a:bit");
        define(1, "b:bit!");
        for (int i = 0; i < 100; i++) {
            x.pack(0);
        }
        due("count", x.count(8), 100);
        due("pack", x.pack(0), FULL);
        due("pack", x.pack(1), REFUSED);
        due("pack", x.pack(2), STATE);
        due("pack", x.pack(6), NONE);
        x.bytes(0);
        x.trip(0, 0);
        x.smallest();
        due("count", x.count(8), 100);
        sentence("36: 9 TAKEN by load(), 10 LOST by it: not what is REFUSED, in thought");
        define(0, "a:bit");
        define(1, "b:bit!");
        x.pack(0);
        x.pack(0);
        x.poke(5, 9);
        x.load(0, 0);
        x.load(0, 0);
        due("load", x.load(0, 1), REFUSED);
        due("load", x.load(5, 0), LOST);
        due("load", x.load(0, 2), STATE);
        due("load", x.load(10, 0), NONE);
        x.frame(5, 0);
        x.scan(0);
        x.found(1);
        x.trip(0, 0);
        due("count", x.count(9), 2);
        due("count", x.count(10), 1);
        sentence("36: so far, whatever is laid back");
        define(0, "a:bit");
        x.image();
        x.pack(0);
        x.load(0, 0);
        x.load(1, 0);
        x.read(7, 0, 0);
        x.thing(0, 1);
        x.read(0, 0, 0);
        x.make(0, INT, 0);
        x.read(0, 0, INT);
        x.back();
        due("wire", x.count(6), 0);
        for (int what = 8; what < 14; what++) {
            due("count " + what, x.count(what), 1);
        }
    }

    private void countRefusals() {
        sentence("36: 11 to 13, how often each call was refused by NOTHING, KIND, PLACE");
        x.thing(1, 1);
        x.make(2, INT, 1);
        int[] seen = new int[3];
        for (int s = 0; s < 3; s++) {
            for (int call = 0; call < 4; call++) {
                refused(call, s);
                seen[s]++;
                for (int what = 0; what < 3; what++) {
                    due("count " + (11 + what), x.count(11 + what), seen[what]);
                }
            }
        }
        sentence("36: by KIND, a number that doesn't WIDEN, too");
        x.make(0, INT, 1);
        x.read(0, 0, BYTE);
        x.write(0, 0, LONG, 1);
        x.real(0, 0, FLOAT, 1, 1);
        x.box(0, 0, DOUBLE, 1);
        x.box(0, 0, BOX, 1);
        due("count", x.count(11), 0);
        due("count", x.count(12), 5);
        due("count", x.count(13), 0);
        sentence("36: not by NONE, BAD, nor by of(), alike(), mode(), pack(), load()");
        x.thing(1, 1);
        x.make(2, BOX, 1);
        define(0, "b:int");
        define(1, "c:int");
        define(2, "c:box");
        x.read(8, 0, 0);
        x.read(0, 0, 9);
        x.write(0, 0, 8, 0);
        x.real(0, 0, 5, 1, 1);
        x.real(0, 0, FLOAT, 1, 0);
        x.box(0, 0, 9, 0);
        due("of", x.of(0, 1), NOTHING);
        due("of", x.of(1, 1), KIND);
        due("alike", x.alike(0, 1), NOTHING);
        due("alike", x.alike(1, 1), KIND);
        due("mode", x.mode(0, 0, 0), KIND);
        due("pack", x.pack(0), REFUSED);
        due("pack", x.pack(1), REFUSED);
        due("pack", x.pack(2) > 0 ? 1 : 0, 1);
        due("load", x.load(0, 1), REFUSED);
        for (int what = 11; what < 14; what++) {
            due("count " + what, x.count(what), 0);
        }
        sentence("36: not what isn't refused");
        x.make(0, FLOAT, 1);
        x.read(0, 0, BOX);
        x.write(0, 0, BYTE, 1);
        x.real(0, 0, FLOAT, 1, 1);
        x.box(0, 0, BYTE, 1);
        for (int what = 11; what < 14; what++) {
            due("count " + what, x.count(what), 0);
        }
    }

    /** A call of which SLOT 0 is refused by NOTHING, 1 by KIND, 2 by PLACE. */
    private void refused(int call, int slot) {
        int want = NOTHING - slot;
        if (call == 0) {
            due("read", x.read(slot, 1, INT), want);
        } else if (call == 1) {
            due("write", x.write(slot, 1, INT, 5), want);
        } else if (call == 2) {
            due("real", x.real(slot, 1, FLOAT, 1, 1), want);
        } else {
            due("box", x.box(slot, 1, INT, 5), want);
        }
    }

    private void all() {
        image();
        backState();
        back();
        backOfTheRest();
        count();
        countFrames();
        countRefusals();
        check.end();
    }

    public static void main(String[] args) {
        new EdgesOfImageTest().all();
    }
}
