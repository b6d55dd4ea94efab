/** The boundary cases of promises 20 to 24 and of FRAMES that are LOST, under ==== 4. */
public final class EdgesOfFramesTest extends Scene {
    private String schema = "";

    private EdgesOfFramesTest() {
    }

    /** Bytes of a FRAME of a VERSION with a BODY, and a right DIGEST. */
    private static String frameOf(int version, String body) {
        String ahead = String.format("%02x%02x", version, body.length() / 2) + body;
        return ahead + digestOf(ahead);
    }

    private void lay(String hex) {
        int[] all = new int[hex.length() / 2];
        for (int i = 0; i < all.length; i++) {
            all[i] = Integer.parseInt(hex.substring(2 * i, 2 * i + 2), 16);
        }
        Check.fill(x, all);
    }

    /** What stands at a place is LOST, as frame() and load() by VERSION 0 tell. */
    private void lostAt(int place, int fault, int faultPlace) {
        due("frame 0", x.frame(place, 0), fault);
        due("frame 1", x.frame(place, 1), faultPlace);
        for (int what = 2; what < 7; what++) {
            due("frame " + what, x.frame(place, what), NO_SUCH);
        }
        int before = x.count(10);
        due("load", x.load(place, 0), LOST);
        stopped(3, fault, faultPlace, 0);
        due("count", x.count(10), before + 1);
    }

    private void standsAt(int place, int behind) {
        due("frame 0", x.frame(place, 0), 0);
        due("frame 1", x.frame(place, 1), NO_SUCH);
        due("frame 6", x.frame(place, 6), behind);
        due("load", x.load(place, 0), behind);
    }

    private void versions() {
        for (int version : new int[] {1, 2, 3, 5, 6, 7, 8, 127, 128, 249, 255}) {
            sentence("==== 4: FAULT 1, the byte VERSION is none that is there (its place)");
            define(0, "a:bit");
            define(4, "a:bit");
            lay(frameOf(version, "00"));
            lostAt(0, 1, 0);
        }
        lay(frameOf(4, "00"));
        standsAt(0, 5);
        sentence("==== 4: FAULT 1, a VERSION that has been there");
        define(0, "a:bit");
        define(4, "a:bit");
        due("pack", x.pack(4), 5);
        x.drop(4);
        lostAt(0, 1, 0);
        define(4, "b:bit");
        standsAt(0, 5);
        sentence("==== 4: FAULT 1, ahead of 2 and 3");
        define(0, "a:bit");
        lay("06");
        lostAt(0, 1, 0);
        lay("06ff0000");
        lostAt(0, 1, 0);
        lay("0601000000");
        lostAt(0, 1, 0);
        lay("00" + "05");
        lostAt(1, 1, 1);
    }

    private void lengths() {
        sentence("==== 4: FAULT 2, LENGTH isn't there (LENGTH's place)");
        define(0, "a:bit");
        lay("00");
        lostAt(0, 2, 1);
        lay(frameOf(0, "00") + "00");
        standsAt(0, 5);
        lostAt(5, 2, 6);
        sentence("==== 4: FAULT 2, LENGTH isn't there, at the end of a full WIRE");
        define(3, "a:bit");
        for (int i = 0; i < 100; i++) {
            x.pack(3);
        }
        x.poke(499, 3);
        due("frame", x.frame(499, 0), 2);
        due("frame", x.frame(499, 1), 500);
        due("frame", x.frame(495, 0), 3);
        sentence("==== 4: FAULT 2, is above 250, with all its bytes and a right DIGEST");
        define(0, "a:bit");
        lay(frameOf(0, "00".repeat(251)));
        lostAt(0, 2, 1);
        sentence("==== 4: a LENGTH of 250 isn't above 250");
        define(0, "a:bit");
        lay(frameOf(0, "00".repeat(250)));
        lostAt(0, 7, 3);
        sentence("==== 4: FAULT 2, the FRAME by it goes beyond THE WIRE, by one byte");
        define(0, "a:bit");
        String frame = frameOf(0, "00");
        for (int n = 2; n < 5; n++) {
            lay(frame.substring(0, 2 * n));
            lostAt(0, 2, 1);
        }
        lay(frame);
        standsAt(0, 5);
        lay(frame.repeat(2).substring(0, 18));
        standsAt(0, 5);
        lostAt(5, 2, 6);
        sentence("==== 4: FAULT 2, ahead of 3 and of the BODY's");
        define(0, "a:bit");
        lay("0002ff0000");
        lostAt(0, 2, 1);
        sentence("==== 4: LENGTH 0: the BODY ends too early");
        define(0, "a:bit");
        lay(frameOf(0, ""));
        lostAt(0, 5, 2);
    }

    private void digests() {
        for (int bit = 0; bit < 16; bit++) {
            sentence("==== 4: FAULT 3, the DIGEST is another one (where it begins)");
            define(0, "a:byte");
            lay(frameOf(0, "010105"));
            int place = 5 + bit / 8;
            x.poke(place, x.wire(place) ^ 1 << bit % 8);
            lostAt(0, 3, 5);
        }
        sentence("==== 4: FAULT 3, a byte ahead of the DIGEST is another one");
        define(0, "a:byte");
        define(1, "a:byte");
        for (int place = 2; place < 5; place++) {
            lay(frameOf(0, "010105"));
            x.poke(place, x.wire(place) ^ 128);
            lostAt(0, 3, 5);
        }
        lay(frameOf(0, "010105"));
        x.poke(0, 1);
        lostAt(0, 3, 5);
        sentence("==== 4: FAULT 3, at a later place");
        define(0, "a:byte");
        lay(frameOf(0, "010105").repeat(2));
        x.poke(13, x.wire(13) ^ 1);
        standsAt(0, 7);
        lostAt(7, 3, 12);
        sentence("==== 4: FAULT 3, ahead of the BODY's");
        define(0, "a:byte");
        lay("0001ff0000");
        lostAt(0, 3, 3);
        sentence("==== 4: z begins with 7 at the FRAME's own begin");
        define(0, "a:byte");
        lay("ffffff" + frameOf(0, "010105"));
        standsAt(3, 10);
    }

    private void bodies(String words, String newSchema) {
        sentence(words);
        schema = newSchema;
        define(0, schema);
    }

    /** A BODY of the schema is LOST by a FAULT at a place of it. */
    private void lost(int fault, int place, String body) {
        x = new RowMarshal();
        define(0, schema);
        lay(frameOf(0, body));
        lostAt(0, fault, 2 + place);
        x = new RowMarshal();
        define(0, schema);
        lay("ff" + frameOf(0, body));
        due("frame", x.frame(1, 1), 3 + place);
    }

    private void stands(String body) {
        x = new RowMarshal();
        define(0, schema);
        lay(frameOf(0, body));
        due("LENGTH", x.frame(0, 3), body.length() / 2);
        standsAt(0, body.length() / 2 + 4);
    }

    private void presents() {
        bodies("==== 4: FAULT 4, PRESENT with a bit of no FIELD", "a:bit[];b:bit[];c:bit[]");
        stands("07000000");
        for (int bit = 3; bit < 8; bit++) {
            lost(4, 0, String.format("%02x", 1 << bit));
            lost(4, 0, String.format("%02x", 1 << bit | 7) + "000000");
        }
        bodies("==== 4: PRESENT of eight FIELDS", "a:bit;b:bit;c:bit;d:bit;e:bit;f:bit;g:bit;h:bit");
        stands("ff" + "00".repeat(8));
        stands("00");
        stands("80" + "00");
        bodies("==== 4: FAULT 4, PRESENT without the bit of a NEEDED one", "a:bit;b:bit!;c:bit!");
        stands("060000");
        stands("07000000");
        lost(4, 0, "00");
        lost(4, 0, "0200");
        lost(4, 0, "0400");
        lost(4, 0, "030000");
        bodies("==== 4: FAULT 4, ... whatever its DEFAULT is", "a:bit=1!");
        lost(4, 0, "00");
        bodies("==== 4: FAULT 5, PRESENT isn't there", "a:bit");
        lost(5, 0, "");
    }

    private void cells() {
        for (int kind = 0; kind < 9; kind++) {
            String none = kind == BOX ? "00".repeat(16) : "00";
            bodies("==== 4: FAULT 4, more than 16 CELLS: " + WORDS[kind], "a:" + WORDS[kind] + "[]");
            stands("01" + "00");
            stands("01" + "10" + none);
            lost(4, 1, "01" + "11" + none + "00");
            lost(4, 1, "01" + "ff");
            lost(4, 1, "01" + "80");
        }
        bodies("==== 4: FAULT 5, how many CELLS isn't there", "a:bit[];b:bit[]");
        lost(5, 1, "01");
        lost(5, 2, "03" + "00");
        lost(5, 1, "02");
        bodies("==== 4: FAULT 5, how many boxes isn't there", "a:box[]");
        lost(5, 1, "01");
    }

    private void heads() {
        bodies("==== 4: FAULT 4, a HEAD with a MODE above 2", "a:long[2]");
        stands("01" + "00");
        stands("01" + "10" + "00");
        stands("01" + "20" + "02");
        for (int mode = 3; mode < 16; mode++) {
            lost(4, 1, "01" + String.format("%02x", 16 * mode) + "02");
        }
        bodies("==== 4: FAULT 4, a HEAD with w above 8", "a:long[2]");
        String eight = "0000000000000001";
        stands("01" + "08" + eight.repeat(2));
        stands("01" + "18" + "00" + eight);
        stands("01" + "28" + "02" + eight);
        for (int w = 9; w < 16; w++) {
            for (int mode = 0; mode < 3; mode++) {
                lost(4, 1, "01" + String.format("%02x", 16 * mode + w) + "02" + "00".repeat(30));
            }
        }
        bodies("==== 4: FAULT 4, a HEAD of STEPS of one CELL", "a:long;b:long[]");
        stands("01" + "00");
        stands("01" + "20" + "01");
        lost(4, 1, "01" + "10" + "00");
        lost(4, 1, "01" + "11" + "0001");
        lost(4, 2, "02" + "01" + "10" + "00");
        stands("02" + "02" + "10" + "00");
        bodies("==== 4: FAULT 5, HEAD isn't there", "a:long;b:long");
        lost(5, 1, "01");
        lost(5, 2, "03" + "00");
        bodies("==== 4: no HEAD, where there is no CELL", "a:long[];b:byte");
        stands("03" + "00" + "0105");
        lost(4, 2, "03" + "00" + "30");
    }

    private void steps() {
        bodies("==== 4: FAULT 4, d above 8", "a:long[2]");
        stands("01" + "10" + "08" + "0000000000000001");
        for (int d : new int[] {9, 16, 127, 128, 255}) {
            lost(4, 2, "01" + "10" + String.format("%02x", d) + "00".repeat(20));
            lost(4, 2, "01" + "10" + String.format("%02x", d));
        }
        bodies("==== 4: FAULT 5, d isn't there", "a:long[2]");
        lost(5, 2, "01" + "11");
        lost(5, 2, "01" + "10");
        bodies("==== 4: FAULT 5, the first, a step isn't there", "a:long[3]");
        lost(5, 3, "01" + "11" + "01");
        lost(5, 4, "01" + "11" + "01" + "05");
        lost(5, 5, "01" + "11" + "01" + "05" + "01");
        stands("01" + "11" + "01" + "05" + "01" + "01");
        lost(5, 6, "01" + "11" + "02" + "05" + "0001");
        bodies("==== 4: FAULT 6, where the bytes of its step begin", "a:byte[3]");
        stands("01" + "11" + "01" + "7e" + "01" + "80");
        lost(6, 4, "01" + "11" + "01" + "7f" + "01" + "00");
        lost(6, 5, "01" + "11" + "01" + "7e" + "01" + "01");
        lost(6, 4, "01" + "11" + "01" + "80" + "ff" + "00");
        lost(6, 3, "01" + "12" + "01" + "0080" + "ff" + "00");
        lost(6, 5, "01" + "12" + "01" + "0001" + "7f" + "00");
        bodies("==== 4: steps are longs that wrap", "a:long[2]");
        stands("01" + "18" + "01" + "7fffffffffffffff" + "01");
        cell(0, 1, LONG, Long.MIN_VALUE);
        stands("01" + "18" + "01" + "8000000000000000" + "ff");
        cell(0, 1, LONG, Long.MAX_VALUE);
    }

    private void runs() {
        bodies("==== 4: FAULT 4, a run of none", "a:byte[3]");
        stands("01" + "21" + "0305");
        lost(4, 2, "01" + "21" + "0005" + "0305");
        lost(4, 4, "01" + "21" + "0205" + "0006");
        bodies("==== 4: FAULT 4, a run of more CELLS than are left", "a:byte[3]");
        lost(4, 2, "01" + "21" + "0405");
        lost(4, 2, "01" + "21" + "ff05");
        stands("01" + "21" + "0205" + "0106");
        lost(4, 4, "01" + "21" + "0205" + "0206");
        lost(4, 4, "01" + "21" + "0205" + "03");
        bodies("==== 4: like ones in two runs may be", "a:byte[3]");
        stands("01" + "21" + "0105" + "0105" + "0105");
        cell(0, 2, BYTE, 5);
        bodies("==== 4: FAULT 5, a run's byte, its VALUE isn't there", "a:byte[3]");
        lost(5, 2, "01" + "21");
        lost(5, 2, "01" + "20");
        lost(5, 3, "01" + "20" + "02");
        lost(5, 3, "01" + "21" + "03");
        lost(5, 4, "01" + "21" + "0205");
        lost(5, 5, "01" + "21" + "0205" + "01");
        lost(5, 4, "01" + "22" + "03" + "05");
        bodies("==== 4: FAULT 6, a run's VALUE, where its bytes begin", "a:byte[3]");
        lost(6, 3, "01" + "22" + "03" + "0080");
        lost(6, 6, "01" + "22" + "02" + "007f" + "01" + "ff7f");
        bodies("==== 4: FAULT 7, a byte behind the last run", "a:byte[3]");
        lost(7, 4, "01" + "21" + "0305" + "01");
    }

    private void tags() {
        bodies("==== 4: FAULT 4, a TAG with a KIND that is none", "a:box[2]");
        for (int kind = 0; kind < 8; kind++) {
            stands("01" + "00" + String.format("%02x", 16 * kind + 16));
        }
        for (int tag = 1; tag < 16; tag++) {
            lost(4, 1, "01" + String.format("%02x", tag) + "00".repeat(16));
        }
        for (int tag = 0x90; tag < 256; tag += 16) {
            lost(4, 2, "01" + "00" + String.format("%02x", tag));
            lost(4, 1, "01" + String.format("%02x", tag + 8) + "00".repeat(9));
        }
        bodies("==== 4: FAULT 4, a TAG with w above 8", "a:box[2]");
        for (int kind = 0; kind < 8; kind++) {
            stands("01" + String.format("%02x", 16 * kind + 24) + "00".repeat(8) + "00");
            for (int w = 9; w < 16; w += 2) {
                lost(4, 1, "01" + String.format("%02x", 16 * kind + 16 + w) + "00".repeat(20));
            }
        }
        bodies("==== 4: FAULT 5, a TAG, its VALUE isn't there", "a:box[2]");
        lost(5, 1, "01");
        lost(5, 2, "01" + "00");
        lost(5, 2, "01" + "51");
        lost(5, 5, "01" + "54" + "000000");
        lost(5, 3, "01" + "00" + "28");
        bodies("==== 4: FAULT 6, a BOX's VALUE, where its bytes begin", "a:box[2]");
        lost(6, 2, "01" + "1102" + "00");
        lost(6, 3, "01" + "00" + "220080");
        bodies("==== 4: FAULT 7, a byte behind the last TAG", "a:box[2]");
        lost(7, 3, "01" + "00" + "00" + "00");
    }

    private static String hexOf(long v, int w) {
        return String.format("%016x", v).substring(16 - 2 * w);
    }

    /** A VALUE, in w bytes, is one that no number of the KIND has, or one that there is. */
    private void value(int kind, long v, int w, boolean stands) {
        String head = String.format("%02x", w);
        String tag = String.format("%02x", 16 * kind + 16 + w);
        String told = hexOf(v, w);
        schema = "a:" + WORDS[kind];
        if (stands) {
            stands("01" + head + told);
            cell(0, 0, kind, v);
        } else {
            lost(6, 2, "01" + head + told);
        }
        schema = "a:box";
        if (stands) {
            stands("01" + tag + told);
            cell(0, 0, kind, v);
        } else {
            lost(6, 2, "01" + tag + told);
        }
    }

    private void wholeValues() {
        bodies("==== 4: FAULT 6, a VALUE that no bit has", "a:bit");
        value(BIT, 0, 1, true);
        value(BIT, 1, 1, true);
        value(BIT, 1, 8, true);
        value(BIT, 2, 1, false);
        value(BIT, -1, 1, false);
        value(BIT, 256, 2, false);
        bodies("==== 4: FAULT 6, a VALUE that no byte has", "a:byte");
        value(BYTE, 127, 2, true);
        value(BYTE, -128, 1, true);
        value(BYTE, 128, 2, false);
        value(BYTE, -129, 2, false);
        value(BYTE, Long.MIN_VALUE, 8, false);
        bodies("==== 4: FAULT 6, a VALUE that no sign has", "a:sign");
        value(SIGN, 0, 2, true);
        value(SIGN, 65535, 3, true);
        value(SIGN, 65536, 3, false);
        value(SIGN, -1, 1, false);
        value(SIGN, -65536, 3, false);
        bodies("==== 4: FAULT 6, a VALUE that no short has", "a:short");
        value(SHORT, 32767, 2, true);
        value(SHORT, -32768, 2, true);
        value(SHORT, 32768, 3, false);
        value(SHORT, -32769, 3, false);
        bodies("==== 4: FAULT 6, a VALUE that no int has", "a:int");
        value(INT, HIGH, 4, true);
        value(INT, LOW, 4, true);
        value(INT, HIGH + 1L, 5, false);
        value(INT, LOW - 1L, 5, false);
        bodies("==== 4: a long has every VALUE", "a:long");
        value(LONG, Long.MAX_VALUE, 8, true);
        value(LONG, Long.MIN_VALUE, 8, true);
        bodies("==== 4: a VALUE by no bytes is 0, which every KIND has", "a:bit");
        for (int kind = 0; kind < 8; kind++) {
            value(kind, 0, 0, true);
        }
        bodies("==== 4: two's complement: the highest bit of w bytes is the sign", "a:long");
        for (int w = 1; w < 9; w++) {
            long low = -1L << 8 * w - 1;
            value(LONG, low, w, true);
            value(LONG, ~low, w, true);
            value(LONG, -1, w, true);
        }
    }

    private void brokenValues() {
        bodies("==== 4: FAULT 6, of float: of an infinite one, of none, too", "a:float");
        value(FLOAT, 0x7F7FFFFF, 4, true);
        value(FLOAT, (int) 0xFF7FFFFF, 4, true);
        value(FLOAT, 1, 1, true);
        value(FLOAT, LOW, 4, true);
        value(FLOAT, 0x7F800000, 4, false);
        value(FLOAT, (int) 0xFF800000, 4, false);
        value(FLOAT, 0x7F800001, 4, false);
        value(FLOAT, 0x7FC00000, 4, false);
        value(FLOAT, HIGH, 4, false);
        value(FLOAT, -1, 1, false);
        value(FLOAT, (int) 0xFFC00000, 4, false);
        bodies("==== 4: FAULT 6, a VALUE that no float has: an int has it not", "a:float");
        value(FLOAT, HIGH + 1L, 5, false);
        value(FLOAT, LOW - 1L, 5, false);
        value(FLOAT, 1L << 32, 5, false);
        value(FLOAT, 0x3FF0000000000000L, 8, false);
        bodies("==== 4: FAULT 6, of double: of an infinite one, of none, too", "a:double");
        value(DOUBLE, 0x7FEFFFFFFFFFFFFFL, 8, true);
        value(DOUBLE, 0xFFEFFFFFFFFFFFFFL, 8, true);
        value(DOUBLE, 1, 1, true);
        value(DOUBLE, Long.MIN_VALUE, 8, true);
        value(DOUBLE, 0x7FF0000000000000L, 8, false);
        value(DOUBLE, 0xFFF0000000000000L, 8, false);
        value(DOUBLE, 0x7FF0000000000001L, 8, false);
        value(DOUBLE, 0x7FF8000000000000L, 8, false);
        value(DOUBLE, Long.MAX_VALUE, 8, false);
        value(DOUBLE, -1, 1, false);
        bodies("==== 4: FAULT 6, a step to a float that is none", "a:float[2]");
        stands("01" + "14" + "01" + "7f7ffffe" + "01");
        lost(6, 7, "01" + "14" + "01" + "7f7fffff" + "01");
    }

    private void order() {
        bodies("==== 4: the first of these: FAULT 5 ahead of 6 of a VALUE", "a:byte[2]");
        lost(5, 3, "01" + "02" + "00");
        lost(6, 2, "01" + "02" + "0080" + "00");
        bodies("==== 4: the BODY, read from its begin on: what comes first", "a:byte[2];b:byte");
        lost(6, 2, "03" + "02" + "0080" + "0000" + "99");
        lost(4, 4, "03" + "01" + "0000" + "99");
        lost(5, 4, "03" + "01" + "0000");
        bodies("==== 4: FAULT 7, bytes are left over (the first one's place)", "a:byte;b:byte");
        stands("00");
        lost(7, 1, "00" + "00");
        lost(7, 1, "00" + "ffff");
        lost(7, 3, "01" + "0105" + "00");
        lost(7, 5, "03" + "0105" + "0105" + "00".repeat(245));
        stands("03" + "0105" + "0105");
        bodies("==== 4: the BODY ends ahead of the DIGEST", "a:long");
        lost(5, 2, "01" + "02");
        lost(5, 9, "01" + "08" + "00".repeat(7));
        stands("01" + "08" + "00".repeat(8));
    }

    private void stop() {
        sentence("20: NONE, what (0 .. 3), ahead of STATE");
        for (int what = 0; what < 4; what++) {
            due("stop", x.stop(what), STATE);
        }
        due("stop", x.stop(-1), NONE);
        due("stop", x.stop(4), NONE);
        for (int far : FAR) {
            due("stop", x.stop(far), NONE);
        }
        define(0, "a:int!");
        x.pack(0);
        due("stop", x.stop(-1), NONE);
        due("stop", x.stop(4), NONE);
        sentence("20: STATE, there was none yet: what is in thought is none");
        define(0, "a:int!");
        define(1, "b:bit");
        x.bytes(0);
        x.trip(0, 0);
        x.trip(1, 0);
        x.smallest();
        x.mode(0, 0, 0);
        x.pack(1);
        x.load(0, 1);
        x.poke(0, 9);
        x.frame(0, 0);
        x.scan(0);
        x.found(0);
        x.load(0, 5);
        x.load(9, 0);
        x.pack(5);
        x.read(0, 0, 0);
        due("stop", x.stop(0), STATE);
        sentence("==== 4: THE STOP tells the latest, of all three");
        define(0, "a:int;b:int!");
        define(1, "b:bit");
        x.pack(0);
        stopped(1, 1, 0, NEEDED);
        x.pack(1);
        due("load", x.load(0, 0), REFUSED);
        stopped(2, 1, 0, NEEDED);
        due("load", x.load(2, 0), LOST);
        stopped(3, 2, 3, 0);
        x.pack(0);
        stopped(1, 1, 0, NEEDED);
        x.load(0, 1);
        x.pack(1);
        stopped(1, 1, 0, NEEDED);
        sentence("20: 1 the FIELD's number in its VERSION (of load(): the READER's)");
        define(0, "a:int;b:int;c:int");
        define(1, "h:int;g:int;f:int;c:byte");
        row(2, INT, 5);
        x.pack(0);
        due("load", x.load(0, 1), REFUSED);
        stopped(2, 3, 0, KIND);
        sentence("20: back() leaves THE STOP");
        define(0, "a:int!");
        x.image();
        x.pack(0);
        x.back();
        stopped(1, 0, 0, NEEDED);
    }

    private void wire() {
        sentence("21: i -1, how many it has; NONE");
        due("wire", x.wire(-1), 0);
        due("wire", x.wire(0), NONE);
        define(0, "a:bit");
        x.pack(0);
        due("wire", x.wire(-1), 5);
        due("wire", x.wire(0), 0);
        due("wire", x.wire(4) >= 0 ? 1 : 0, 1);
        due("wire", x.wire(5), NONE);
        due("wire", x.wire(-2), NONE);
        for (int far : FAR) {
            due("wire", x.wire(far), NONE);
        }
        sentence("21: Byte i (0 .. 255)");
        define(0, "a:bit");
        x.pack(0);
        for (int v : new int[] {0, 1, 127, 128, 254, 255}) {
            x.poke(4, v);
            due("wire", x.wire(4), v);
        }
        define(1, "a:byte");
        row(0, BYTE, -1);
        x.pack(1);
        due("wire", x.wire(9), 255);
        sentence("22: NONE, i (a byte of THE WIRE), ahead of BAD");
        due("poke", x.poke(0, 0), NONE);
        define(0, "a:bit");
        x.pack(0);
        due("poke", x.poke(4, 0) >= 0 ? 1 : 0, 1);
        due("poke", x.poke(5, 0), NONE);
        due("poke", x.poke(5, 256), NONE);
        due("poke", x.poke(-1, 0), NONE);
        due("poke", x.poke(-1, -1), NONE);
        for (int far : FAR) {
            due("poke", x.poke(far, 0), NONE);
        }
        sentence("22: BAD, v (0 .. 255); what it was");
        define(0, "a:bit");
        x.pack(0);
        due("poke", x.poke(1, 0), 1);
        due("poke", x.poke(1, 255), 0);
        due("poke", x.poke(1, 256), BAD);
        due("poke", x.poke(1, -1), BAD);
        due("poke", x.poke(1, LOW), BAD);
        due("poke", x.poke(1, HIGH), BAD);
        due("poke", x.poke(1, 7), 255);
        due("poke", x.poke(1, 7), 7);
    }

    private void cut() {
        sentence("23: BAD, n (0 .. how many it has)");
        due("cut", x.cut(0), 0);
        due("cut", x.cut(1), BAD);
        define(0, "a:bit");
        x.pack(0);
        x.pack(0);
        due("cut", x.cut(11), BAD);
        due("cut", x.cut(-1), BAD);
        due("cut", x.cut(LOW), BAD);
        due("cut", x.cut(HIGH), BAD);
        due("it stays", x.wire(-1), 10);
        sentence("23: THE WIRE has its first n bytes alone: how many go");
        define(0, "a:bit");
        x.pack(0);
        x.pack(0);
        due("cut", x.cut(10), 0);
        due("cut", x.cut(9), 1);
        due("wire", x.wire(9), NONE);
        due("poke", x.poke(9, 0), NONE);
        check.due("the first", Check.hex(x, 0, 5), frameOf(0, "00"));
        due("cut", x.cut(0), 9);
        due("wire", x.wire(-1), 0);
        due("wire", x.wire(0), NONE);
        due("cut", x.cut(0), 0);
    }

    private void frame() {
        sentence("24: NONE, place (one of THE WIRE)");
        define(0, "a:int[];b:box[2];c:bit");
        due("frame", x.frame(0, 0), NONE);
        row(0, INT, 1, 2, 3);
        x.make(1, BOX, 2);
        x.pack(0);
        int length = x.wire(-1);
        due("frame", x.frame(0, 0), 0);
        due("frame", x.frame(length - 1, 0) > 0 ? 1 : 0, 1);
        due("frame", x.frame(length, 0), NONE);
        due("frame", x.frame(-1, 0), NONE);
        for (int far : new int[] {LOW, -2, 500, HIGH}) {
            due("frame", x.frame(far, 0), NONE);
        }
        sentence("24: NONE, what (0 .. 6), ahead of -5");
        define(0, "a:bit");
        x.pack(0);
        x.pack(0);
        x.poke(5, 9);
        for (int place = 0; place < 10; place += 5) {
            due("frame", x.frame(place, -1), NONE);
            due("frame", x.frame(place, 7), NONE);
            for (int far : FAR) {
                due("frame", x.frame(place, far), NONE);
            }
        }
        sentence("24: 4 how many FIELDS are PRESENT, 5 how many CELLS all these have");
        define(3, "a:int[];b:box[2];c:bit;d:long[]");
        int[][] dues = {{0, 0}, {1, 0}, {2, 2}, {3, 3}, {4, 19}};
        for (int step = 0; step < 5; step++) {
            if (step > 0) {
                x.make(step - 1, new int[] {INT, BOX, BIT, LONG}[step - 1],
                    new int[] {0, 2, 1, 16}[step - 1]);
            }
            x.cut(0);
            int size = x.pack(3);
            due("frame 2", x.frame(0, 2), 3);
            due("frame 3", x.frame(0, 3), size - 4);
            due("frame 4", x.frame(0, 4), dues[step][0]);
            due("frame 5", x.frame(0, 5), dues[step][1]);
            due("frame 6", x.frame(0, 6), size);
        }
        sentence("24: a FRAME with many CELLS, then one with few");
        define(0, "a:bit[];b:bit[];c:bit[]");
        for (int s = 0; s < 3; s++) {
            x.make(s, BIT, 16);
        }
        int size = x.pack(0);
        x.thing(1, 0);
        x.thing(2, 0);
        x.pack(0);
        due("frame 5", x.frame(0, 5), 48);
        due("frame 4", x.frame(size, 4), 1);
        due("frame 5", x.frame(size, 5), 16);
        sentence("24: 4, 5 of eight FIELDS, all and the last alone");
        define(0, "a:bit[];b:bit[];c:bit[];d:bit[];e:bit[];f:bit[];g:bit[];h:bit[]");
        for (int s = 0; s < 8; s++) {
            x.make(s, BIT, 16);
        }
        x.pack(0);
        due("frame 4", x.frame(0, 4), 8);
        due("frame 5", x.frame(0, 5), 128);
        for (int s = 0; s < 7; s++) {
            x.thing(s, 0);
        }
        x.cut(0);
        x.pack(0);
        due("frame 4", x.frame(0, 4), 1);
        due("frame 5", x.frame(0, 5), 16);
    }

    private void refusedStays() {
        sentence("20 to 24: what is answered so changes nothing");
        usual();
        String before = state();
        String stops = stopAndTallies();
        due("stop", x.stop(4), NONE);
        due("wire", x.wire(100), NONE);
        due("poke", x.poke(0, 256), BAD);
        due("poke", x.poke(100, 0), NONE);
        due("cut", x.cut(-1), BAD);
        due("cut", x.cut(100), BAD);
        due("frame", x.frame(0, 7), NONE);
        due("frame", x.frame(1, 2), NO_SUCH);
        check.due("state", state(), before);
        check.due("stop and tallies", stopAndTallies(), stops);
    }

    private void all() {
        versions();
        lengths();
        digests();
        presents();
        cells();
        heads();
        steps();
        runs();
        tags();
        wholeValues();
        brokenValues();
        order();
        stop();
        wire();
        cut();
        frame();
        refusedStays();
        check.end();
    }

    public static void main(String[] args) {
        new EdgesOfFramesTest().all();
    }
}
