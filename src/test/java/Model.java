import java.lang.reflect.Array;
import java.util.ArrayList;
import java.util.Arrays;
import java.util.IdentityHashMap;
import java.util.List;
import java.util.Map;
import java.util.regex.Matcher;
import java.util.regex.Pattern;

/**
 * The document once more, written with Java's own arrays, boxes and reflection: rows are
 * boolean[] .. double[] and Object[], read and written by java.lang.reflect.Array, whose
 * widenings and refusals are Java's. Slow and plain: what RowMarshal answers is held against it.
 */
final class Model {
    static final int NOTHING = -11, KIND = -12, PLACE = -13, NEEDED = -15, COUNT = -16;
    static final int RANGE = -17, GAP = -18, REFUSED = -20, LOST = -21;
    static final Class<?>[] TYPES = {boolean.class, byte.class, char.class, short.class, int.class,
        long.class, float.class, double.class, Object.class};
    static final Class<?>[] BOXES = {Boolean.class, Byte.class, Character.class, Short.class,
        Integer.class, Long.class, Float.class, Double.class};
    static final List<String> WORDS =
        List.of("bit", "byte", "sign", "short", "int", "long", "float", "double", "box");

    record Part(int slot, int kind, int cells, Integer number, boolean needed) {
    }

    record Stop(int by, int first, int second, int why) {
    }

    /** Thrown where a pack, a load or a frame ends. */
    static final class Ended extends RuntimeException {
        private static final long serialVersionUID = 1;
        final int first;
        final int second;
        final int why;

        Ended(int first, int second, int why) {
            this.first = first;
            this.second = second;
            this.why = why;
        }
    }

    Object[] slots = new Object[8];
    List<List<Part>> versions = new ArrayList<>(Arrays.asList(null, null, null, null, null, null));
    List<Integer> wire = new ArrayList<>();
    int lax = 0;
    Object latch = null;
    String tape = "";
    String paper = "";
    Stop stop = null;
    int[] tallies = new int[14];
    Object[] imageSlots = null;
    List<List<Part>> imageVersions;
    List<Integer> imageWire;
    int imageLax;

    static int kindOf(Object box) {
        return box == null ? 8 : Arrays.asList(BOXES).indexOf(box.getClass());
    }

    static long valueOf(Object box) {
        if (box == null) {
            return 0;
        }
        if (box instanceof Boolean b) {
            return b ? 1 : 0;
        }
        if (box instanceof Character c) {
            return c;
        }
        if (box instanceof Float f) {
            return Float.floatToIntBits(f);
        }
        if (box instanceof Double d) {
            return Double.doubleToLongBits(d);
        }
        return ((Number) box).longValue();
    }

    static Object number(int kind, long v) {
        return switch (kind) {
            case 0 -> v != 0;
            case 1 -> (byte) v;
            case 2 -> (char) v;
            case 3 -> (short) v;
            case 4 -> (int) v;
            case 5 -> v;
            case 6 -> (float) v;
            case 7 -> (double) v;
            default -> null;
        };
    }

    /** The number of a KIND with a VALUE; null: there is none. */
    static Object withValue(int kind, long value) {
        Object made = kind == 6 ? (Object) Float.intBitsToFloat((int) value)
            : kind == 7 ? (Object) Double.longBitsToDouble(value) : number(kind, value);
        if (made instanceof Float f && !Float.isFinite(f)
            || made instanceof Double d && !Double.isFinite(d)) {
            return null;
        }
        return valueOf(made) == value ? made : null;
    }

    static boolean isArray(Object held) {
        return held != null && held.getClass().isArray();
    }

    static int rowKind(Object row) {
        return Arrays.asList(TYPES).indexOf(row.getClass().getComponentType());
    }

    static Object readBy(Object row, int i, int view) {
        return switch (view) {
            case 0 -> Array.getBoolean(row, i);
            case 1 -> Array.getByte(row, i);
            case 2 -> Array.getChar(row, i);
            case 3 -> Array.getShort(row, i);
            case 4 -> Array.getInt(row, i);
            case 5 -> Array.getLong(row, i);
            case 6 -> Array.getFloat(row, i);
            case 7 -> Array.getDouble(row, i);
            default -> Array.get(row, i);
        };
    }

    static void writeBy(Object row, int i, Object number) {
        switch (kindOf(number)) {
            case 0 -> Array.setBoolean(row, i, (Boolean) number);
            case 1 -> Array.setByte(row, i, (Byte) number);
            case 2 -> Array.setChar(row, i, (Character) number);
            case 3 -> Array.setShort(row, i, (Short) number);
            case 4 -> Array.setInt(row, i, (Integer) number);
            case 5 -> Array.setLong(row, i, (Long) number);
            case 6 -> Array.setFloat(row, i, (Float) number);
            default -> Array.setDouble(row, i, (Double) number);
        }
    }

    static void boxBy(Object row, int i, Object box) {
        if (box == null && isArray(row) && rowKind(row) != 8) {
            throw new IllegalArgumentException();
        }
        Array.set(row, i, box);
    }

    /** What a refusal of Java's is here. */
    static int refusal(RuntimeException e) {
        return e instanceof NullPointerException ? NOTHING
            : e instanceof IndexOutOfBoundsException ? PLACE : KIND;
    }

    int tallied(RuntimeException e) {
        int why = refusal(e);
        tallies[why == NOTHING ? 11 : why == KIND ? 12 : 13]++;
        return why;
    }

    static boolean in(int v, int low, int high) {
        return v >= low && v <= high;
    }

    int make(int slot, int kind, int n) {
        if (!in(slot, 0, 7)) {
            return -1;
        }
        if (!in(kind, 0, 8) || n > 16) {
            return -2;
        }
        if (n < 0) {
            return -14;
        }
        slots[slot] = Array.newInstance(TYPES[kind], n);
        return 1;
    }

    int thing(int slot, int what) {
        if (!in(slot, 0, 7)) {
            return -1;
        }
        if (!in(what, 0, 1)) {
            return -2;
        }
        slots[slot] = what == 1 ? new Object() : null;
        return 1;
    }

    int same(int slot, int other) {
        if (!in(slot, 0, 7) || !in(other, 0, 7)) {
            return -1;
        }
        slots[slot] = slots[other];
        return 1;
    }

    int of(int slot, int what) {
        if (!in(slot, 0, 7) || !in(what, 0, 2)) {
            return -1;
        }
        Object held = slots[slot];
        if (what == 0) {
            return held == null ? -5 : isArray(held) ? rowKind(held) : 9;
        }
        if (held == null) {
            return NOTHING;
        }
        if (!isArray(held)) {
            return KIND;
        }
        return what == 1 ? Array.getLength(held)
            : (int) Arrays.stream(slots).filter(s -> s == held).count();
    }

    int read(int slot, int i, int view) {
        if (!in(slot, 0, 7) || !in(view, 0, 8)) {
            return -1;
        }
        try {
            latch = readBy(slots[slot], i, view);
            return 1;
        } catch (RuntimeException e) {
            return tallied(e);
        }
    }

    long latch(int what) {
        return what == 0 ? kindOf(latch) : what == 1 ? valueOf(latch) : Long.MIN_VALUE;
    }

    int write(int slot, int i, int kind, long v) {
        return in(slot, 0, 7) && in(kind, 0, 7) ? written(slot, i, number(kind, v)) : -1;
    }

    int written(int slot, int i, Object number) {
        try {
            writeBy(slots[slot], i, number);
            return 1;
        } catch (RuntimeException e) {
            return tallied(e);
        }
    }

    int real(int slot, int i, int kind, int above, int below) {
        if (!in(slot, 0, 7) || !in(kind, 6, 7)) {
            return -1;
        }
        if (below == 0) {
            return -2;
        }
        Object number = kind == 6 ? (Object) ((float) above / (float) below)
            : (Object) ((double) above / (double) below);
        return written(slot, i, number);
    }

    int box(int slot, int i, int kind, long v) {
        if (!in(slot, 0, 7) || !in(kind, 0, 8)) {
            return -1;
        }
        try {
            boxBy(slots[slot], i, number(kind, v));
            return 1;
        } catch (RuntimeException e) {
            return tallied(e);
        }
    }

    int lax(int v) {
        if (!in(v, 0, 1)) {
            return -2;
        }
        int was = lax;
        lax = v;
        return was;
    }

    int feed(int n, int word) {
        if (!in(n, 1, 4)) {
            return -2;
        }
        String more = "";
        for (int i = 0; i < n; i++) {
            int one = (word >> (8 * i)) & 255;
            if (!in(one, 1, 127)) {
                return -2;
            }
            more += (char) one;
        }
        if ((tape + more).length() > 160) {
            return -4;
        }
        tape += more;
        return tape.length();
    }

    static final String CELLS = "(?:\\[(?<n%d>[0-9]{0,2})\\])?";
    static final Pattern PART = Pattern.compile("(?<letter>[a-h]):(?:(?<box>box)(?![a-z])"
        + String.format(CELLS, 1) + "|(?!box(?![a-z]))(?<word>[a-z]*+)" + String.format(CELLS, 2)
        + "(?:=(?<number>-?[0-9]{1,6}))?)(?<needed>!?)");
    static final String LOOSE = PART.pattern().replaceAll("\\?<[a-z]+[0-9]?>", "?:");
    static final Pattern TEXT = Pattern.compile(LOOSE + "(?:;" + LOOSE + ")*+");

    /** How many of a text's first bytes some text by the grammar goes on with, limits aside. */
    static int viable(String text) {
        for (int length = 1; length <= text.length(); length++) {
            Matcher m = TEXT.matcher(text.substring(0, length));
            if (!m.matches() && !m.hitEnd()) {
                return length - 1;
            }
        }
        return text.length();
    }

    /** The FAULT of a text; -1: it has none. */
    static int fault(String text) {
        int good = viable(text);
        int fault = TEXT.matcher(text).matches() ? -1 : good;
        String part = text.substring(0, good);
        int begin = 0;
        String letters = "";
        for (int k = 0; begin <= good; k++) {
            int end = part.indexOf(';', begin);
            end = end < 0 ? good : end;
            int special = specialFault(text, begin, end, letters, k);
            if (special >= 0) {
                return special;
            }
            letters += begin < good ? part.charAt(begin) : "";
            begin = end + 1;
        }
        return fault;
    }

    static int specialFault(String text, int begin, int end, String letters, int k) {
        if (k == 8) {
            return begin;
        }
        if (begin < end && letters.indexOf(text.charAt(begin)) >= 0) {
            return begin;
        }
        if (end < begin + 2) {
            return -1;
        }
        Matcher word = Pattern.compile("[a-z]*").matcher(text);
        word.find(begin + 2);
        if (!WORDS.contains(word.group())) {
            return begin + 2;
        }
        Matcher n = Pattern.compile("\\[([0-9]{1,2})").matcher(text);
        if (n.find(word.end()) && n.start() == word.end() && n.end() <= end
            && !in(Integer.parseInt(n.group(1)), 1, 16)) {
            return n.start(1);
        }
        return -1;
    }

    static List<Part> parts(String text) {
        List<Part> parts = new ArrayList<>();
        for (String one : text.split(";")) {
            Matcher m = PART.matcher(one);
            if (!m.matches()) {
                throw new IllegalStateException(one);
            }
            boolean box = m.group("box") != null;
            String n = box ? m.group("n1") : m.group("n2");
            String number = m.group("number");
            parts.add(new Part(m.group("letter").charAt(0) - 'a',
                WORDS.indexOf(box ? "box" : m.group("word")),
                n == null ? 1 : n.isEmpty() ? 0 : Integer.parseInt(n),
                number == null ? null : Integer.valueOf(number), !m.group("needed").isEmpty()));
        }
        return parts;
    }

    int define(int version) {
        if (!in(version, 0, 5)) {
            return -1;
        }
        String text = tape;
        tape = "";
        int fault = fault(text);
        if (fault >= 0) {
            return -100 - fault;
        }
        versions.set(version, parts(text));
        return versions.get(version).size();
    }

    int lack(int version) {
        return !in(version, 0, 5) ? -1 : versions.get(version) == null ? -3 : 0;
    }

    int drop(int version) {
        if (lack(version) != 0) {
            return lack(version);
        }
        versions.set(version, null);
        return 1;
    }

    int field(int version, int k, int what) {
        if (!in(version, 0, 5) || !in(k, 0, 7) || !in(what, 0, 5)) {
            return -1;
        }
        if (lack(version) != 0) {
            return lack(version);
        }
        if (k >= versions.get(version).size()) {
            return -1;
        }
        Part p = versions.get(version).get(k);
        int[] all = {p.slot, p.kind, p.cells, p.needed ? 1 : 0, p.number != null ? 1 : 0,
            p.number != null ? p.number : -2000000000};
        return all[what];
    }

    int spell(int version) {
        if (lack(version) != 0) {
            return lack(version);
        }
        List<String> all = new ArrayList<>();
        for (Part p : versions.get(version)) {
            all.add("abcdefgh".charAt(p.slot) + ":" + WORDS.get(p.kind)
                + (p.cells == 1 ? "" : p.cells == 0 ? "[]" : "[" + p.cells + "]")
                + (p.number == null ? "" : "=" + p.number) + (p.needed ? "!" : ""));
        }
        paper = String.join(";", all);
        return paper.length();
    }

    int paper(int i) {
        return in(i, 0, paper.length() - 1) ? paper.charAt(i) : -1;
    }

    static int width(long v) {
        if (v == 0) {
            return 0;
        }
        return new java.math.BigInteger(Long.toString(v)).toByteArray().length;
    }

    static void number(List<Integer> to, long v, int w) {
        for (int i = w - 1; i >= 0; i--) {
            to.add((int) (v >>> (8 * i)) & 255);
        }
    }

    static int widest(List<Long> values) {
        return values.stream().mapToInt(Model::width).max().orElse(0);
    }

    /** The bytes of numbers by each MODE, and the least of them. */
    static List<Integer> numbers(List<Long> values) {
        int w = widest(values);
        List<Integer> plain = new ArrayList<>(List.of(w));
        values.forEach(v -> number(plain, v, w));
        List<Integer> best = plain;
        if (values.size() > 1) {
            List<Long> steps = new ArrayList<>();
            for (int i = 1; i < values.size(); i++) {
                steps.add(values.get(i) - values.get(i - 1));
            }
            int first = width(values.get(0));
            int d = widest(steps);
            List<Integer> stepped = new ArrayList<>(List.of(16 + first, d));
            number(stepped, values.get(0), first);
            steps.forEach(v -> number(stepped, v, d));
            best = stepped.size() < best.size() ? stepped : best;
        }
        List<Integer> runs = new ArrayList<>(List.of(32 + w));
        for (int i = 0; i < values.size();) {
            int n = 1;
            while (i + n < values.size() && values.get(i + n).equals(values.get(i))) {
                n++;
            }
            runs.add(n);
            number(runs, values.get(i), w);
            i += n;
        }
        return runs.size() < best.size() ? runs : best;
    }

    /** The CELLS of a FIELD, as READ. */
    List<Object> cells(int k, Part p) {
        Object row = slots[p.slot];
        if (!isArray(row)) {
            throw new Ended(k, 0, KIND);
        }
        int n = Array.getLength(row);
        if (p.cells != 0 && n != p.cells) {
            throw new Ended(k, n, COUNT);
        }
        List<Object> cells = new ArrayList<>();
        for (int i = 0; i < n; i++) {
            try {
                cells.add(readBy(row, i, p.kind));
            } catch (RuntimeException e) {
                throw new Ended(k, i, refusal(e));
            }
        }
        return cells;
    }

    static List<Long> values(List<Object> cells) {
        return cells.stream().map(Model::valueOf).toList();
    }

    List<Integer> body(int version) {
        List<Integer> body = new ArrayList<>(List.of(0));
        List<Part> parts = versions.get(version);
        for (int k = 0; k < parts.size(); k++) {
            Part p = parts.get(k);
            if (slots[p.slot] == null) {
                if (p.needed) {
                    throw new Ended(k, 0, NEEDED);
                }
                continue;
            }
            body.set(0, body.get(0) + (1 << k));
            List<Object> cells = cells(k, p);
            if (p.cells == 0) {
                body.add(cells.size());
            }
            if (p.kind == 8) {
                for (Object box : cells) {
                    int w = width(valueOf(box));
                    body.add(box == null ? 0 : 16 * (kindOf(box) + 1) + w);
                    number(body, valueOf(box), w);
                }
            } else if (!cells.isEmpty()) {
                body.addAll(numbers(values(cells)));
            }
        }
        return body;
    }

    int pack(int version) {
        if (lack(version) != 0) {
            return lack(version);
        }
        List<Integer> made = new ArrayList<>();
        try {
            List<Integer> body = body(version);
            made.add(version);
            made.add(body.size());
            made.addAll(body);
        } catch (Ended e) {
            stop = new Stop(1, e.first, e.second, e.why);
            return REFUSED;
        }
        if (made.size() - 2 > 250 || wire.size() + made.size() + 2 > 500) {
            return -4;
        }
        int z = sum(made);
        made.add((z >> 8) & 255);
        made.add(z & 255);
        wire.addAll(made);
        tallies[8]++;
        return made.size();
    }

    static int sum(List<Integer> bytes) {
        int z = 7;
        for (int one : bytes) {
            z = 31 * z + one;
        }
        return z;
    }

    /** The FRAME at a place: for each FIELD its boxes, or null; or Ended with the FAULT. */
    List<List<Object>> frameAt(int place) {
        int version = wire.get(place);
        if (lack(version) != 0) {
            throw new Ended(1, place, 0);
        }
        if (place + 1 >= wire.size() || wire.get(place + 1) > 250
            || place + 4 + wire.get(place + 1) > wire.size()) {
            throw new Ended(2, place + 1, 0);
        }
        int end = place + 2 + wire.get(place + 1);
        int z = sum(wire.subList(place, end));
        if (wire.get(end) != ((z >> 8) & 255) || wire.get(end + 1) != (z & 255)) {
            throw new Ended(3, end, 0);
        }
        return new BodyReader(wire, place + 2, end).all(versions.get(version));
    }

    static final class BodyReader {
        private final List<Integer> bytes;
        private int at;
        private final int end;

        BodyReader(List<Integer> bytes, int at, int end) {
            this.bytes = bytes;
            this.at = at;
            this.end = end;
        }

        private int next() {
            if (at == end) {
                throw new Ended(5, end, 0);
            }
            return bytes.get(at++);
        }

        private int nextBelow(int limit) {
            int one = next();
            if (one >= limit) {
                throw new Ended(4, at - 1, 0);
            }
            return one;
        }

        private long nextNumber(int w) {
            if (at + w > end) {
                throw new Ended(5, end, 0);
            }
            long v = w > 0 && bytes.get(at) > 127 ? -1 : 0;
            for (int i = 0; i < w; i++) {
                v = v * 256 + bytes.get(at++);
            }
            return v;
        }

        private Object nextBox(int kind, int w, long base) {
            int begin = at;
            Object box = withValue(kind, base + nextNumber(w));
            if (box == null) {
                throw new Ended(6, begin, 0);
            }
            return box;
        }

        List<List<Object>> all(List<Part> parts) {
            int present = nextBelow(1 << parts.size());
            List<List<Object>> all = new ArrayList<>();
            for (int k = 0; k < parts.size(); k++) {
                if (parts.get(k).needed && (present & 1 << k) == 0) {
                    throw new Ended(4, at - 1, 0);
                }
            }
            for (int k = 0; k < parts.size(); k++) {
                all.add((present & 1 << k) == 0 ? null : cells(parts.get(k)));
            }
            if (at < end) {
                throw new Ended(7, at, 0);
            }
            return all;
        }

        private List<Object> cells(Part p) {
            int n = p.cells == 0 ? nextBelow(17) : p.cells;
            List<Object> cells = new ArrayList<>();
            if (p.kind == 8) {
                while (cells.size() < n) {
                    int tag = nextBelow(0x89);
                    if (tag != 0 && (tag < 16 || tag % 16 > 8)) {
                        throw new Ended(4, at - 1, 0);
                    }
                    cells.add(tag == 0 ? null : nextBox(tag / 16 - 1, tag % 16, 0));
                }
            } else if (n > 0) {
                numbers(p.kind, n, cells);
            }
            return cells;
        }

        private void numbers(int kind, int n, List<Object> cells) {
            int head = nextBelow(0x29);
            int w = head % 16;
            if (w > 8 || head / 16 == 1 && n == 1) {
                throw new Ended(4, at - 1, 0);
            }
            if (head / 16 == 1) {
                int d = nextBelow(9);
                cells.add(nextBox(kind, w, 0));
                while (cells.size() < n) {
                    cells.add(nextBox(kind, d, valueOf(cells.get(cells.size() - 1))));
                }
            }
            while (cells.size() < n) {
                int run = head / 16 == 0 ? 1 : nextBelow(n - cells.size() + 1);
                if (run == 0) {
                    throw new Ended(4, at - 1, 0);
                }
                Object box = nextBox(kind, w, 0);
                for (int i = 0; i < run; i++) {
                    cells.add(box);
                }
            }
        }
    }

    /** What the SLOTS would hold. */
    Object[] taken(List<List<Object>> from, int writer, int reader) {
        Object[] then = slots.clone();
        List<Part> parts = versions.get(reader);
        for (int k = 0; k < parts.size(); k++) {
            Part p = parts.get(k);
            List<Object> cells = null;
            for (int j = 0; j < from.size(); j++) {
                if (versions.get(writer).get(j).slot == p.slot) {
                    cells = from.get(j);
                }
            }
            then[p.slot] = cells == null ? byDefault(k, p) : entered(k, p, cells);
        }
        return then;
    }

    static Object byDefault(int k, Part p) {
        if (p.needed) {
            throw new Ended(k, 0, NEEDED);
        }
        if (p.number == null) {
            return null;
        }
        Object row = Array.newInstance(TYPES[p.kind], p.cells);
        for (int i = 0; i < p.cells; i++) {
            Array.set(row, i, number(p.kind, p.number));
        }
        return row;
    }

    Object entered(int k, Part p, List<Object> cells) {
        int n = cells.size();
        if (p.cells != 0 && n != p.cells) {
            throw new Ended(k, n, COUNT);
        }
        Object row = Array.newInstance(TYPES[p.kind], n);
        for (int i = 0; i < n; i++) {
            Object box = cells.get(i);
            if (p.kind == 8) {
                Array.set(row, i, box);
                continue;
            }
            if (box == null) {
                throw new Ended(k, i, GAP);
            }
            try {
                writeBy(row, i, box);
            } catch (IllegalArgumentException e) {
                if (lax == 0 || !in(p.kind, 1, 5) || !in(kindOf(box), 1, 5)) {
                    throw new Ended(k, i, KIND);
                }
                Object narrow = withValue(p.kind, valueOf(box));
                if (narrow == null) {
                    throw new Ended(k, i, RANGE);
                }
                Array.set(row, i, narrow);
            }
        }
        return row;
    }

    int load(int place, int version) {
        if (!in(place, 0, wire.size() - 1)) {
            return -1;
        }
        if (lack(version) != 0) {
            return lack(version);
        }
        List<List<Object>> from;
        try {
            from = frameAt(place);
        } catch (Ended e) {
            stop = new Stop(3, e.first, e.second, 0);
            tallies[10]++;
            return LOST;
        }
        try {
            slots = taken(from, wire.get(place), version);
        } catch (Ended e) {
            stop = new Stop(2, e.first, e.second, e.why);
            return REFUSED;
        }
        tallies[9]++;
        return place + 4 + wire.get(place + 1);
    }

    int stop(int what) {
        if (!in(what, 0, 3)) {
            return -1;
        }
        if (stop == null) {
            return -3;
        }
        return new int[] {stop.by, stop.first, stop.second, stop.why}[what];
    }

    int wire(int i) {
        return i == -1 ? wire.size() : in(i, 0, wire.size() - 1) ? wire.get(i) : -1;
    }

    int poke(int i, int v) {
        if (!in(i, 0, wire.size() - 1)) {
            return -1;
        }
        return in(v, 0, 255) ? wire.set(i, v) : -2;
    }

    int cut(int n) {
        if (!in(n, 0, wire.size())) {
            return -2;
        }
        int go = wire.size() - n;
        wire = new ArrayList<>(wire.subList(0, n));
        return go;
    }

    int frame(int place, int what) {
        if (!in(place, 0, wire.size() - 1) || !in(what, 0, 6)) {
            return -1;
        }
        try {
            List<List<Object>> all = frameAt(place);
            int present = 0;
            int cells = 0;
            for (List<Object> one : all) {
                present += one == null ? 0 : 1;
                cells += one == null ? 0 : one.size();
            }
            int length = wire.get(place + 1);
            return new int[] {0, -5, wire.get(place), length, present, cells,
                place + 4 + length}[what];
        } catch (Ended e) {
            return what == 0 ? e.first : what == 1 ? e.second : -5;
        }
    }

    int bytes(int version) {
        if (lack(version) != 0) {
            return lack(version);
        }
        try {
            int size = body(version).size();
            return size > 250 ? -4 : size + 4;
        } catch (Ended e) {
            return REFUSED;
        }
    }

    int mode(int version, int k, int what) {
        if (!in(version, 0, 5) || !in(k, 0, 7) || !in(what, 0, 3)) {
            return -1;
        }
        if (lack(version) != 0) {
            return lack(version);
        }
        if (k >= versions.get(version).size()) {
            return -1;
        }
        Part p = versions.get(version).get(k);
        Object row = slots[p.slot];
        if (p.kind == 8 || row == null || isArray(row) && Array.getLength(row) == 0) {
            return -5;
        }
        try {
            List<Integer> made = numbers(values(cells(k, p)));
            int way = made.get(0) / 16;
            return new int[] {way, made.get(0) % 16, way == 1 ? made.get(1) : -5,
                made.size()}[what];
        } catch (Ended e) {
            return e.why;
        }
    }

    int smallest() {
        int best = -5;
        for (int v = 5; v >= 0; v--) {
            if (bytes(v) > 0 && (best < 0 || bytes(v) <= bytes(best))) {
                best = v;
            }
        }
        return best;
    }

    int scan(int what) {
        if (!in(what, 0, 2)) {
            return -1;
        }
        int frames = 0;
        int at = 0;
        while (at < wire.size() && frame(at, 0) == 0) {
            frames++;
            at = frame(at, 6);
        }
        return what == 0 ? frames : what == 1 ? at : at == wire.size() ? 0 : frame(at, 0);
    }

    int found(int place) {
        if (!in(place, 0, wire.size() - 1)) {
            return -1;
        }
        for (int at = place; at < wire.size(); at++) {
            if (frame(at, 0) == 0) {
                return at;
            }
        }
        return -5;
    }

    static boolean widens(int from, int to) {
        try {
            writeBy(Array.newInstance(TYPES[to], 1), 0, number(from, 0));
            return true;
        } catch (IllegalArgumentException e) {
            return false;
        }
    }

    int fit(int writer, int reader, int k) {
        if (!in(writer, 0, 5) || !in(reader, 0, 5) || !in(k, 0, 7)) {
            return -1;
        }
        if (lack(writer) != 0 || lack(reader) != 0) {
            return -3;
        }
        if (k >= versions.get(reader).size()) {
            return -1;
        }
        Part r = versions.get(reader).get(k);
        Part w = null;
        for (Part one : versions.get(writer)) {
            w = one.slot == r.slot ? one : w;
        }
        if (w == null) {
            return r.needed ? 5 : r.number != null ? 3 : 4;
        }
        boolean numbers = r.kind < 8 && w.kind < 8;
        boolean narrow = numbers && !widens(w.kind, r.kind);
        if (r.cells > 0 && w.cells > 0 && r.cells != w.cells) {
            return 5;
        }
        if (narrow && !(in(r.kind, 1, 5) && in(w.kind, 1, 5))) {
            return 5;
        }
        if (r.cells > 0 && w.cells == 0 || r.needed && !w.needed || w.kind == 8 && r.kind != 8
            || narrow) {
            return 2;
        }
        return r.kind == w.kind ? 0 : 1;
    }

    static boolean alike(Object one, Object two) {
        if (one == null || two == null) {
            return one == two;
        }
        if (one instanceof Boolean || two instanceof Boolean) {
            return one.equals(two);
        }
        if (in(kindOf(one), 1, 5) && in(kindOf(two), 1, 5)) {
            return valueOf(one) == valueOf(two);
        }
        return asDouble(one) == asDouble(two);
    }

    static double asDouble(Object box) {
        return box instanceof Character c ? c : ((Number) box).doubleValue();
    }

    int trip(int writer, int reader) {
        if (!in(writer, 0, 5) || !in(reader, 0, 5)) {
            return -1;
        }
        if (lack(writer) != 0 || lack(reader) != 0) {
            return -3;
        }
        try {
            List<Integer> body = body(writer);
            List<List<Object>> all =
                new BodyReader(body, 0, body.size()).all(versions.get(writer));
            Object[] then = taken(all, writer, reader);
            if (body.size() > 250) {
                return -4;
            }
            int sum = 0;
            for (int s = 0; s < 8; s++) {
                for (int i = 0; isArray(slots[s]) && isArray(then[s])
                    && i < Array.getLength(slots[s]) && i < Array.getLength(then[s]); i++) {
                    sum += alike(Array.get(slots[s], i), Array.get(then[s], i)) ? 1 : 0;
                }
            }
            return sum;
        } catch (Ended e) {
            return REFUSED;
        }
    }

    int alike(int slot, int other) {
        if (!in(slot, 0, 7) || !in(other, 0, 7)) {
            return -1;
        }
        Object one = slots[slot];
        Object two = slots[other];
        if (one == null || two == null) {
            return NOTHING;
        }
        if (!isArray(one) || !isArray(two)) {
            return KIND;
        }
        for (int i = 0; i < 16; i++) {
            boolean here = i < Array.getLength(one);
            boolean there = i < Array.getLength(two);
            if (here != there || here && !alike(Array.get(one, i), Array.get(two, i))) {
                return i;
            }
        }
        return -5;
    }

    long digest(int slot) {
        if (slot == -1) {
            long z = 7;
            for (int s = 0; s < 8; s++) {
                z = 31 * z + digest(s);
            }
            return z;
        }
        if (!in(slot, 0, 7)) {
            return Long.MIN_VALUE;
        }
        Object row = slots[slot];
        if (!isArray(row)) {
            return 31L * 7 + (row == null ? 1 : 2);
        }
        long z = 31 * (31L * 7 + 3 + rowKind(row)) + Array.getLength(row);
        for (int i = 0; i < Array.getLength(row); i++) {
            Object box = Array.get(row, i);
            z = 31 * (31 * z + kindOf(box)) + valueOf(box);
        }
        return z;
    }

    static Object[] copied(Object[] slots) {
        Map<Object, Object> twins = new IdentityHashMap<>();
        Object[] copies = new Object[8];
        for (int s = 0; s < 8; s++) {
            Object row = slots[s];
            if (isArray(row) && !twins.containsKey(row)) {
                int n = Array.getLength(row);
                Object twin = Array.newInstance(row.getClass().getComponentType(), n);
                System.arraycopy(row, 0, twin, 0, n);
                twins.put(row, twin);
            }
            copies[s] = isArray(row) ? twins.get(row) : row;
        }
        return copies;
    }

    int image() {
        imageSlots = copied(slots);
        imageVersions = new ArrayList<>(versions);
        imageWire = new ArrayList<>(wire);
        imageLax = lax;
        return count(2);
    }

    int back() {
        if (imageSlots == null) {
            return -3;
        }
        slots = copied(imageSlots);
        versions = new ArrayList<>(imageVersions);
        wire = new ArrayList<>(imageWire);
        lax = imageLax;
        return count(2);
    }

    int count(int what) {
        Map<Object, Object> rows = new IdentityHashMap<>();
        int holding = 0;
        int things = 0;
        for (Object held : slots) {
            if (isArray(held)) {
                rows.put(held, held);
                holding++;
            } else if (held != null) {
                things++;
            }
        }
        return switch (what) {
            case 0 -> holding;
            case 1 -> things;
            case 2 -> rows.size();
            case 3 -> rows.keySet().stream().mapToInt(Array::getLength).sum();
            case 4 -> (int) versions.stream().filter(v -> v != null).count();
            case 5 -> tape.length();
            case 6 -> wire.size();
            case 7 -> paper.length();
            default -> in(what, 8, 13) ? tallies[what] : -1;
        };
    }
}
