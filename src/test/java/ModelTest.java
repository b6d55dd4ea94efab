import java.util.Random;

/** Long runs of calls drawn by fixed seeds, on a RowMarshal and on the Model side by side. */
public final class ModelTest {
    private static final int[] EDGES = {Integer.MIN_VALUE, -1000000, -2, -1, 0, 1, 5, 6, 7, 8, 9,
        15, 16, 17, 250, 251, 255, 256, 499, 500, 501, Integer.MAX_VALUE};
    private static final long[] NUMBERS = {0, 0, 1, -1, 2, 127, 128, -128, -129, 255, 256, 32767,
        32768, -32768, -32769, 65535, 65536, 16777217, 33554435, Integer.MAX_VALUE,
        Integer.MIN_VALUE, 2147483648L, 9007199254740993L, -9007199254740995L, 1L << 55,
        Long.MAX_VALUE, Long.MIN_VALUE, Long.MIN_VALUE + 1, 0x7FFFFF7FFFFFFFFFL};
    /** Answers that the runs must come to, lest they say nothing about them. */
    private static final String[] REACHED = {
        "pack -4", "pack -20", "load -20", "load -21", "trip -20", "trip -4", "bytes -4",
        "bytes -20", "why1 -12", "why1 -15", "why1 -16", "why2 -12", "why2 -15", "why2 -16",
        "why2 -17", "why2 -18", "fault 1", "fault 2", "fault 3", "fault 4", "fault 5", "fault 6",
        "fault 7", "fit 0", "fit 1", "fit 2", "fit 3", "fit 4", "fit 5", "mode0 0", "mode0 1",
        "mode0 2", "mode0 -12", "mode0 -16", "mode0 -5", "smallest -5", "smallest 5", "feed -4",
        "alike -5", "back 3", "found -5"};
    private final Check check;
    private final Random random;
    /** The KIND and the number of CELLS that a SLOT mostly has in a run, so that schemas fit. */
    private final int[] usualKind = new int[8];
    private final int[] usualSize = new int[8];
    private RowMarshal x;
    private Model m;

    private ModelTest(Check check, long seed) {
        this.check = check;
        this.random = new Random(seed);
    }

    private int below(int n) {
        return random.nextInt(n);
    }

    private boolean chance(int percent) {
        return below(100) < percent;
    }

    /** One of 0 .. n - 1, now and then something else. */
    private int near(int n) {
        int pick = below(60);
        return pick == 0 ? EDGES[below(EDGES.length)] : pick == 1 ? n : pick == 2 ? -1 : below(n);
    }

    private long anyLong() {
        return switch (below(5)) {
            case 0 -> random.nextLong() >> below(64);
            case 1 -> NUMBERS[below(NUMBERS.length)];
            case 2 -> below(3);
            default -> below(400) - 200;
        };
    }

    private int anyInt() {
        return chance(30) ? (int) anyLong() : random.nextInt() >> below(32);
    }

    private String part(int slot) {
        StringBuilder text = new StringBuilder();
        int kind = chance(70) ? widerThan(usualKind[slot]) : below(9);
        text.append((char) ('a' + slot)).append(':').append(Model.WORDS.get(kind));
        int cells = below(10);
        if (cells < 6) {
            text.append("[]");
        } else if (cells < 8) {
            int n = chance(80) ? usualSize[slot] : 1 + below(4);
            text.append('[').append(n).append(']');
        } else if (cells == 8) {
            text.append('[').append(chance(50) ? "0" : "").append(1 + below(9)).append(']');
        }
        if (kind != 8 && chance(40)) {
            text.append('=').append(chance(40) ? "-" : "");
            int digits = 1 + below(6);
            for (int i = 0; i < digits; i++) {
                text.append(below(10));
            }
        }
        return text.append(chance(10) ? "!" : "").toString();
    }

    private int widerThan(int kind) {
        int pick = below(10);
        if (pick < 4) {
            return kind;
        }
        if (pick == 4) {
            return 8;
        }
        return kind >= 1 && kind <= 5 ? 1 + below(7) : kind == 6 ? 7 : kind;
    }

    private String schema() {
        StringBuilder text = new StringBuilder();
        int fields = chance(10) ? 8 + below(2) : 1 + below(5);
        int first = chance(50) ? 0 : below(8);
        for (int k = 0; k < fields; k++) {
            text.append(k == 0 ? "" : ";").append(part(chance(2) ? below(8) : (first + 3 * k) % 8));
        }
        if (chance(20)) {
            int at = below(text.length() + 1);
            String signs = "abhiz:;[]=-!0123456789 A";
            switch (below(3)) {
                case 0 -> text.insert(at, signs.charAt(below(signs.length())));
                case 1 -> text.setLength(at);
                default -> {
                    if (at < text.length()) {
                        text.setCharAt(at, signs.charAt(below(signs.length())));
                    }
                }
            }
        }
        return text.toString();
    }

    private void defineOne() {
        String text = schema();
        for (int i = 0; i < text.length(); i += 4) {
            int n = Math.min(4, text.length() - i);
            int word = 0;
            for (int j = 0; j < n; j++) {
                word |= text.charAt(i + j) << (8 * j);
            }
            check.due("feed", x.feed(n, word), m.feed(n, word));
        }
        int v = near(6);
        check.due("define " + text, x.define(v), m.define(v));
    }

    /** Spoils a byte, and mostly mends the DIGEST behind, so that the BODY is looked at. */
    private void spoil() {
        int size = x.wire(-1);
        int at = 0;
        for (int i = below(4); i > 0 && x.frame(at, 0) == 0 && x.frame(at, 6) < size; i--) {
            at = x.frame(at, 6);
        }
        int length = x.wire(at + 1);
        int i = near(Math.max(1, size));
        int v = chance(50) ? below(48) : below(256);
        if (length > 0 && chance(85)) {
            i = at + 2 + below(chance(50) ? Math.min(length, 8) : length);
        }
        check.due("poke", x.poke(i, v), m.poke(i, v));
        if (chance(10) && length > 1 && at + length + 3 < size) {
            int shorter = length + (chance(50) ? -1 : 1);
            check.due("poke", x.poke(at + 1, shorter), m.poke(at + 1, shorter));
        }
        int end = at + 2 + x.wire(at + 1);
        if (chance(90) && end + 1 < size) {
            int z = 7;
            for (int j = at; j < end; j++) {
                z = 31 * z + x.wire(j);
            }
            check.due("poke", x.poke(end, (z >> 8) & 255), m.poke(end, (z >> 8) & 255));
            check.due("poke", x.poke(end + 1, z & 255), m.poke(end + 1, z & 255));
        }
        for (int what = 0; what < 7; what++) {
            check.due("frame", x.frame(at, what), m.frame(at, what));
        }
        int reader = below(6);
        check.due("load", x.load(at, reader), m.load(at, reader));
    }

    private void fillRow(int slot) {
        int kind = chance(80) ? usualKind[slot] : below(9);
        int n = chance(80) ? usualSize[slot] : below(17);
        check.due("make", x.make(slot, kind, n), m.make(slot, kind, n));
        int pattern = below(4);
        long v = anyLong();
        long step = anyLong();
        for (int i = 0; i < n; i++) {
            v = pattern == 0 ? anyLong() : pattern == 1 ? v + step : chance(30) ? anyLong() : v;
            int as = kind == 8 ? below(9) : kind;
            check.due("box", x.box(slot, i, as, v), m.box(slot, i, as, v));
            if ((as == 6 || as == 7) && chance(50)) {
                int above = anyInt();
                int below = anyInt();
                check.due("real " + above + " " + below, x.real(slot, i, as, above, below),
                    m.real(slot, i, as, above, below));
            }
        }
    }

    private void slotCall(int which) {
        int slot = near(8);
        int i = near(chance(50) ? 3 : 17);
        switch (which) {
            case 0 -> {
                int kind = near(9);
                int n = near(17);
                check.due("make", x.make(slot, kind, n), m.make(slot, kind, n));
            }
            case 1 -> {
                int what = near(2);
                check.due("thing", x.thing(slot, what), m.thing(slot, what));
            }
            case 2 -> {
                int other = near(8);
                check.due("same", x.same(slot, other), m.same(slot, other));
            }
            case 3 -> {
                int what = near(3);
                check.due("of", x.of(slot, what), m.of(slot, what));
            }
            case 4 -> {
                int view = near(9);
                check.due("read", x.read(slot, i, view), m.read(slot, i, view));
            }
            case 5 -> {
                int kind = near(8);
                long v = anyLong();
                check.due("write", x.write(slot, i, kind, v), m.write(slot, i, kind, v));
            }
            case 6 -> {
                int kind = chance(95) ? 6 + below(2) : near(9);
                int above = anyInt();
                int below = anyInt();
                check.due("real " + above + " " + below, x.real(slot, i, kind, above, below),
                    m.real(slot, i, kind, above, below));
            }
            default -> {
                int kind = near(9);
                long v = anyLong();
                check.due("box", x.box(slot, i, kind, v), m.box(slot, i, kind, v));
            }
        }
        int what = near(2);
        check.due("latch", x.latch(what), m.latch(what));
    }

    private void wireCall(int which) {
        int v = near(6);
        int place = chance(50) ? 0 : near(Math.max(1, x.wire(-1)));
        switch (which) {
            case 0 -> check.due("pack", x.pack(v), m.pack(v));
            case 1 -> check.due("load", x.load(place, v), m.load(place, v));
            case 2 -> check.due("wire", x.wire(place), m.wire(place));
            case 3 -> {
                int n = chance(30) ? place : 0;
                check.due("cut", x.cut(n), m.cut(n));
            }
            case 4 -> {
                int what = near(7);
                check.due("frame", x.frame(place, what), m.frame(place, what));
            }
            case 5 -> check.due("found", x.found(place), m.found(place));
            case 6 -> {
                int what = near(3);
                check.due("scan", x.scan(what), m.scan(what));
            }
            default -> {
                int w = near(256);
                check.due("poke", x.poke(place, w), m.poke(place, w));
            }
        }
        int what = near(4);
        check.due("stop", x.stop(what), m.stop(what));
    }

    private void thoughtCall(int which) {
        int v = near(6);
        int w = near(6);
        int k = near(chance(70) ? 3 : 8);
        int what = near(6);
        switch (which) {
            case 0 -> check.due("bytes", x.bytes(v), m.bytes(v));
            case 1 -> check.due("mode" + what, x.mode(v, k, what), m.mode(v, k, what));
            case 2 -> check.due("smallest", x.smallest(), m.smallest());
            case 3 -> check.due("fit", x.fit(v, w, k), m.fit(v, w, k));
            case 4 -> check.due("trip", x.trip(v, w), m.trip(v, w));
            case 5 -> {
                int one = near(8);
                int two = near(8);
                check.due("alike", x.alike(one, two), m.alike(one, two));
            }
            case 6 -> check.due("field", x.field(v, k, what), m.field(v, k, what));
            case 7 -> check.due("spell", x.spell(v), m.spell(v));
            case 8 -> {
                int n = near(15);
                check.due("count " + n, x.count(n), m.count(n));
            }
            case 9 -> {
                int slot = near(9);
                check.due("digest", x.digest(slot), m.digest(slot));
            }
            default -> {
                int i = near(30);
                check.due("paper", x.paper(i), m.paper(i));
            }
        }
    }

    private void rareCall(int which) {
        int v = near(6);
        switch (which) {
            case 0 -> check.due("image", x.image(), m.image());
            case 1 -> check.due("back", x.back(), m.back());
            case 2 -> check.due("drop", x.drop(v), m.drop(v));
            case 3 -> {
                int lax = near(2);
                check.due("lax", x.lax(lax), m.lax(lax));
            }
            default -> {
                int n = near(5);
                int word = chance(50) ? random.nextInt() & 0x7F7F7F7F : random.nextInt();
                check.due("feed", x.feed(n, word), m.feed(n, word));
            }
        }
    }

    private void wholeState() {
        check.due("digest(-1)", x.digest(-1), m.digest(-1));
        for (int what = 0; what < 14; what++) {
            check.due("count " + what, x.count(what), m.count(what));
        }
        for (int i = 0; i < m.wire.size(); i++) {
            check.due("wire " + i, x.wire(i), m.wire(i));
        }
        for (int i = 0; i <= m.paper.length(); i++) {
            check.due("paper " + i, x.paper(i), m.paper(i));
        }
        for (int what = 0; what < 4; what++) {
            check.due("stop" + what, x.stop(what), m.stop(what));
        }
        check.due(m.stop(0) == 3 ? "fault" : "what", x.stop(1), m.stop(1));
        check.due("why" + m.stop(0), x.stop(3), m.stop(3));
    }

    private void run(int steps) {
        x = new RowMarshal();
        m = new Model();
        boolean big = chance(15);
        for (int slot = 0; slot < 8; slot++) {
            usualKind[slot] = big ? 5 + below(4) : below(9);
            usualSize[slot] = big ? 12 + below(5) : chance(30) ? 1 : below(17);
            if (chance(80)) {
                fillRow(slot);
            }
        }
        for (int v = 0; v < 6; v++) {
            defineOne();
        }
        for (int step = 0; step < steps; step++) {
            int pick = below(100);
            if (pick < 6) {
                defineOne();
            } else if (pick < 12) {
                fillRow(below(8));
            } else if (pick < 30) {
                slotCall(below(8));
            } else if (pick < 60) {
                wireCall(chance(70) ? below(2) : below(8));
            } else if (pick < 75) {
                spoil();
            } else if (pick < 96) {
                thoughtCall(below(11));
            } else {
                rareCall(below(5));
            }
            if (step % 10 == 0) {
                wholeState();
            }
        }
        wholeState();
    }

    public static void main(String[] args) {
        Check check = new Check();
        int runs = args.length > 0 ? Integer.parseInt(args[0]) : 3000;
        for (int seed = 0; seed < runs; seed++) {
            check.about("seed " + seed);
            new ModelTest(check, seed).run(120);
        }
        for (String answer : REACHED) {
            check.due("reached " + answer, check.times(answer) > 0 ? 1 : 0, 1);
        }
        check.end();
    }
}
