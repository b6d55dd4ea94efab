import java.util.Arrays;

/** What the tests by hand share: an object, and short ways to bring it into a state. */
abstract class Scene {
    static final int NONE = -1, BAD = -2, STATE = -3, FULL = -4, NO_SUCH = -5;
    static final int NOTHING = -11, KIND = -12, PLACE = -13, SIZE = -14, NEEDED = -15;
    static final int COUNT = -16, RANGE = -17, GAP = -18, REFUSED = -20, LOST = -21;
    static final int BIT = 0, BYTE = 1, SIGN = 2, SHORT = 3, INT = 4, LONG = 5, FLOAT = 6;
    static final int DOUBLE = 7, BOX = 8, THING = 9;
    static final int LOW = Integer.MIN_VALUE, HIGH = Integer.MAX_VALUE;
    /** Numbers that are no SLOT, no VERSION, no KIND, no what, wherever at most 0 .. 13 are. */
    static final int[] FAR = {LOW, -2, 14, 255, HIGH};
    /** To which KINDS each number's KIND WIDENS, as the document lists them. */
    static final String[] WIDENS = {"0", "134567", "24567", "34567", "4567", "567", "67", "7"};
    static final String[] WORDS = {"bit", "byte", "sign", "short", "int", "long", "float",
        "double", "box"};
    final Check check = new Check();
    RowMarshal x;

    /** Begins the test of one sentence of the document, with a new object. */
    void sentence(String words) {
        check.about(words);
        x = new RowMarshal();
    }

    void due(String call, long got, long want) {
        check.due(call, got, want);
    }

    void row(int slot, int kind, long... values) {
        due("make", x.make(slot, kind, values.length), 1);
        for (int i = 0; i < values.length; i++) {
            due("write", x.write(slot, i, kind, values[i]), 1);
        }
    }

    void define(int version, String text, int fields) {
        due("define " + text, Check.define(x, version, text), fields);
    }

    /** Defines a VERSION that has as many FIELDS as there are colons in its text. */
    void define(int version, String text) {
        define(version, text, (int) text.chars().filter(c -> c == ':').count());
    }

    /** What CELL i of a SLOT holds. */
    void cell(int slot, int i, int kind, long value) {
        due("read " + slot + " " + i, x.read(slot, i, BOX), 1);
        latched(kind, value);
    }

    void latched(int kind, long value) {
        due("kind", x.latch(0), kind);
        due("value", x.latch(1), value);
    }

    void stopped(int by, int first, int second, int why) {
        due("stop(0)", x.stop(0), by);
        due("stop(1)", x.stop(1), first);
        due("stop(2)", x.stop(2), second);
        due("stop(3)", x.stop(3), why);
    }

    void wire(String hex) {
        check.due("the wire", Check.hex(x, 0, x.wire(-1)), hex);
    }

    /** The two bytes of the DIGEST of these bytes. */
    static String digestOf(String hex) {
        int z = 7;
        for (int i = 0; i < hex.length(); i += 2) {
            z = 31 * z + Integer.parseInt(hex.substring(i, i + 2), 16);
        }
        return String.format("%04x", z & 0xFFFF);
    }

    /** THE WIRE is one FRAME of a VERSION with a BODY. */
    void framed(int version, String body) {
        String ahead = String.format("%02x%02x", version, body.length() / 2) + body;
        wire(ahead + digestOf(ahead));
    }

    static boolean widens(int from, int to) {
        return to < BOX && WIDENS[from].indexOf('0' + to) >= 0;
    }

    /** The VALUE of the number of a KIND by a long, by Java's own casts. */
    static long valueBy(int kind, long v) {
        return switch (kind) {
            case BIT -> v != 0 ? 1 : 0;
            case BYTE -> (byte) v;
            case SIGN -> (char) v;
            case SHORT -> (short) v;
            case INT -> (int) v;
            case FLOAT -> Float.floatToIntBits(v);
            case DOUBLE -> Double.doubleToLongBits(v);
            default -> v;
        };
    }

    /** Longs of which no MODE tells n by less than 1 + 8 n bytes. */
    static long[] wild(int n) {
        long[] wild = new long[n];
        for (int i = 0; i < n; i++) {
            wild[i] = i % 2 == 0 ? Long.MAX_VALUE - i : 1L << 61;
        }
        return wild;
    }

    /** All that can be seen of the state but THE STOP and the tallies; THE LATCH is put back. */
    String state() {
        StringBuilder text = new StringBuilder();
        text.append("digest ").append(x.digest(-1));
        for (int s = 0; s < 8; s++) {
            text.append(' ').append(x.of(s, 2));
        }
        text.append(" latch ").append(x.latch(0)).append(' ').append(x.latch(1));
        int lax = x.lax(0);
        x.lax(lax);
        text.append(" lax ").append(lax).append(" counts");
        for (int what = 0; what < 8; what++) {
            text.append(' ').append(x.count(what));
        }
        text.append(" versions");
        for (int v = 0; v < 6; v++) {
            text.append(' ').append(x.field(v, 0, 0)).append(x.field(v, 0, 1));
        }
        text.append(" wire ").append(Check.hex(x, 0, Math.min(60, x.wire(-1))));
        text.append(" paper");
        for (int i = 0; i < Math.min(30, x.count(7)); i++) {
            text.append(' ').append(x.paper(i));
        }
        return text.toString();
    }

    String stopAndTallies() {
        int[] all = new int[10];
        for (int what = 0; what < 4; what++) {
            all[what] = x.stop(what);
        }
        for (int what = 8; what < 14; what++) {
            all[what - 4] = x.count(what);
        }
        return Arrays.toString(all);
    }

    /** An ordinary state: rows, boxes, a THING, two VERSIONS, a FRAME, bytes on TAPE and PAPER. */
    void usual() {
        row(0, INT, 1, 2, 300);
        x.make(1, BOX, 2);
        x.box(1, 1, BYTE, 7);
        x.thing(2, 1);
        x.same(5, 0);
        row(6, BIT, 1);
        define(0, "a:int[];b:box[]");
        define(1, "g:bit;h:int=4");
        x.pack(0);
        x.spell(1);
        Check.feed(x, "a:i");
        x.read(0, 1, LONG);
        x.lax(1);
    }
}
