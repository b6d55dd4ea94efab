/** The boundary cases of promises 12 to 17, sentence by sentence: versions told as texts. */
public final class EdgesOfVersionsTest extends Scene {
    private static final String EIGHT = "a:bit;b:bit;c:bit;d:bit;e:bit;f:bit;g:bit;h:bit";

    private EdgesOfVersionsTest() {
    }

    private void feedBad() {
        sentence("12: BAD, n (1 .. 4)");
        for (int n = 1; n <= 4; n++) {
            x = new RowMarshal();
            due("feed", x.feed(n, 0x61616161), n);
        }
        due("feed", x.feed(0, 0x61616161), BAD);
        due("feed", x.feed(5, 0x61616161), BAD);
        due("feed", x.feed(-1, 0x61616161), BAD);
        for (int far : FAR) {
            due("feed", x.feed(far, 0x61616161), BAD);
        }
        due("it stays", x.count(5), 4);
        sentence("12: BAD, one of them is none of 1 .. 127");
        for (int n = 1; n <= 4; n++) {
            for (int at = 0; at < n; at++) {
                x = new RowMarshal();
                int others = 0x61616161 & ~(255 << 8 * at);
                due("0", x.feed(n, others), BAD);
                due("128", x.feed(n, others | 128 << 8 * at), BAD);
                due("255", x.feed(n, others | 255 << 8 * at), BAD);
                due("none has come", x.count(5), 0);
                due("1", x.feed(n, others | 1 << 8 * at), n);
                due("127", x.feed(n, others | 127 << 8 * at), 2 * n);
            }
        }
        sentence("12: n bytes of word: those beyond them may be any");
        due("feed", x.feed(1, 0xFF8000 << 8 | 'a'), 1);
        due("feed", x.feed(2, 0x00806161), 3);
        due("feed", x.feed(3, 0x80616161), 6);
        due("feed", x.feed(3, 0x00616161), 9);
        sentence("12: its lowest first");
        due("feed", x.feed(4, 'c' | ':' << 8 | 'b' << 16 | 'i' << 24), 4);
        due("feed", x.feed(1, 't'), 5);
        due("define", x.define(0), 1);
        check.due("spelled", Check.spelled(x, 0), "c:bit");
    }

    /** THE TAPE has n bytes. */
    private void tape(int n) {
        while (x.count(5) + 4 <= n) {
            x.feed(4, 0x61616161);
        }
        while (x.count(5) < n) {
            x.feed(1, 0x61);
        }
    }

    private void feedFull() {
        sentence("==== 2: THE TAPE holds 0 .. 160 bytes");
        tape(156);
        due("feed", x.feed(4, 0x61616161), 160);
        for (int n = 1; n <= 4; n++) {
            due("full", x.feed(n, 0x61616161), FULL);
        }
        due("it stays", x.count(5), 160);
        for (int free = 0; free < 4; free++) {
            sentence("12: FULL, they have no room, but " + free + " of them");
            tape(160 - free);
            due("full", x.feed(free + 1, 0x61616161), FULL);
            due("full", x.feed(4, 0x61616161), FULL);
            due("it stays", x.count(5), 160 - free);
            due("room", free == 0 ? 160 : x.feed(free, 0x61616161), 160);
        }
        sentence("12: BAD is named ahead of FULL");
        tape(160);
        due("feed", x.feed(5, 0x61616161), BAD);
        due("feed", x.feed(0, 0x61616161), BAD);
        due("feed", x.feed(1, 0), BAD);
        due("feed", x.feed(2, 0x8061), BAD);
        sentence("12: FULL no more, when THE TAPE is empty");
        tape(160);
        due("define", x.define(0), -101);
        due("feed", x.feed(4, 0x61616161), 4);
    }

    private void defineNone() {
        sentence("13: NONE (THE TAPE stays)");
        Check.feed(x, "a:int");
        due("define", x.define(-1), NONE);
        due("define", x.define(6), NONE);
        for (int far : FAR) {
            due("define", x.define(far), NONE);
        }
        due("the tape", x.count(5), 5);
        due("define", x.define(5), 1);
        sentence("==== 2: VERSIONS 0 .. 5, none is there at first");
        for (int v = 0; v < 6; v++) {
            due("field", x.field(v, 0, 0), STATE);
            define(v, "a:int");
            due("field", x.field(v, 0, 0), 0);
        }
        sentence("13: THE TAPE is empty then");
        define(0, "a:int");
        due("the tape", x.count(5), 0);
        due("define", x.define(0), -100);
        sentence("13: THE TAPE is empty then (by a FAULT, too)");
        due("define", Check.define(x, 0, "a:inx"), -102);
        due("the tape", x.count(5), 0);
        define(0, "a:int");
        sentence("13: -100 less the FAULT (the VERSION is as it was)");
        define(3, "b:int[2]=7!;a:box");
        due("define", Check.define(x, 3, "a:bit;b:bit;"), -112);
        check.due("spelled", Check.spelled(x, 3), "b:int[2]=7!;a:box");
        due("define", Check.define(x, 4, "a:bit;b:bit;"), -112);
        due("none has come", x.field(4, 0, 0), STATE);
        sentence("13: a VERSION that is there becomes another one");
        define(3, "b:int[2]=7!;a:box");
        define(3, "h:bit");
        check.due("spelled", Check.spelled(x, 3), "h:bit");
        due("field", x.field(3, 1, 0), NONE);
    }

    private void fault(String text, int place) {
        due("define " + text, Check.define(x, 0, text), -100 - place);
    }

    private void fields() {
        sentence("==== 2: FIELDS, 1 .. 8: none");
        fault("", 0);
        sentence("==== 2: FIELDS, 1 .. 8: one, eight");
        define(0, "a:bit", 1);
        define(0, EIGHT, 8);
        define(0, "h:bit;g:bit;f:bit;e:bit;d:bit;c:bit;b:bit;a:bit", 8);
        sentence("==== 2: FAULT of a ninth FIELD where it would begin");
        fault(EIGHT + ";", 48);
        fault(EIGHT + ";a:bit", 48);
        fault(EIGHT + ";i:bit", 48);
        fault(EIGHT + ";;", 48);
        fault(EIGHT + "[16]=-999999!;a", 61);
        sentence("==== 2: FIELDS, parted by ;");
        fault("a:bit,b:bit", 5);
        fault("a:bit:b:bit", 5);
        fault("a:bit;;b:bit", 6);
        fault(";a:bit", 0);
        fault("a:bit;", 6);
        fault("a:bit[2]b:bit", 8);
        fault("a:bit=1b:bit", 7);
        fault("a:bit!b:bit", 6);
        sentence("==== 2: no blanks");
        fault(" a:bit", 0);
        fault("a :bit", 1);
        fault("a: bit", 2);
        fault("a:bit ", 5);
        fault("a:bit [2]", 5);
        fault("a:bit[ 2]", 6);
        fault("a:bit[2 ]", 7);
        fault("a:bit[2] =1", 8);
        fault("a:bit= 1", 6);
        fault("a:bit=- 1", 7);
        fault("a:bit=1 ", 7);
        fault("a:bit=1 !", 7);
        fault("a:bit; b:bit", 6);
    }

    private void letters() {
        sentence("==== 2: a letter a .. h (its SLOT)");
        for (int s = 0; s < 8; s++) {
            define(0, (char) ('a' + s) + ":bit", 1);
            due("field", x.field(0, 0, 0), s);
        }
        fault("`:bit", 0);
        fault("i:bit", 0);
        fault("z:bit", 0);
        fault("A:bit", 0);
        fault("1:bit", 0);
        fault("\u007F:bit", 0);
        fault("\u0001:bit", 0);
        fault("a:bit;i:bit", 6);
        sentence("==== 2: FAULT of a letter that came before its place (none twice)");
        fault("a:bit;a:bit", 6);
        fault("h:bit;h:bit", 6);
        fault("a:bit;b:bit;a:bit", 12);
        fault("a:bit;b:bit;b:bit", 12);
        fault("a:bit;a", 6);
        fault("a:bit;a?", 6);
        fault("a:bit;b:bit;c:bit;d:bit;e:bit;f:bit;g:bit;a:bit", 42);
        sentence("==== 2: a letter that came in another text doesn't count");
        fault("a:bit;b:bi", 8);
        define(0, "a:bit", 1);
        define(1, "a:bit", 1);
        sentence("==== 2: the byte :");
        fault("a", 1);
        fault("a;", 1);
        fault("a=bit", 1);
        fault("abit", 1);
        fault("a::bit", 2);
        fault("a:", 2);
    }

    private void words() {
        sentence("==== 2: a KIND's word");
        for (int kind = 0; kind < 9; kind++) {
            define(0, "a:" + WORDS[kind], 1);
            due("field", x.field(0, 0, 1), kind);
        }
        for (int kind = 0; kind < 9; kind++) {
            sentence("==== 2: FAULT of a WORD that is no KIND's where it begins: " + WORDS[kind]);
            String word = WORDS[kind];
            fault("a:" + word.substring(0, word.length() - 1), 2);
            fault("a:" + word.substring(1), 2);
            fault("a:" + word + "s", 2);
            fault("a:" + word + word, 2);
            fault("a:x" + word, 2);
            fault("a:x" + word.substring(1), 2);
            fault("a:" + word + "z", 2);
            fault("a:" + word + "a", 2);
            fault("a:" + word.substring(0, 1) + "?" + word.substring(1), 2);
            fault("a:" + word.substring(0, word.length() - 1) + "z[2]=1!", 2);
            fault("b:bit;a:" + word + "a;c:bit", 8);
        }
        sentence("==== 2: FAULT of a WORD that is no KIND's (an empty one, too) where it begins");
        fault("a:", 2);
        fault("a:[2]", 2);
        fault("a:=1", 2);
        fault("a:!", 2);
        fault("a:;b:bit", 2);
        fault("a:7", 2);
        sentence("==== 2: a WORD is as many of a .. z as stand there");
        fault("a:Bit", 2);
        fault("a:biT", 2);
        fault("a:BIT", 2);
        fault("a:bitA", 5);
        fault("a:bit`", 5);
        fault("a:bit{", 5);
        fault("a:bit1", 5);
        fault("a:bit_", 5);
    }

    private void numbersOfCells() {
        sentence("==== 2: a number N 1 .. 16 and ] (N CELLS)");
        for (int n = 1; n <= 16; n++) {
            define(0, "a:bit[" + n + "]", 1);
            due("field", x.field(0, 0, 2), n);
        }
        sentence("==== 2: 1 or 2 digits: a 0 ahead");
        for (int n = 1; n <= 9; n++) {
            define(0, "a:bit[0" + n + "]", 1);
            due("field", x.field(0, 0, 2), n);
        }
        sentence("==== 2: [ and ] (as many as there are)");
        define(0, "a:bit[]", 1);
        due("field", x.field(0, 0, 2), 0);
        define(0, "a:box[];b:bit[]!", 2);
        due("field", x.field(0, 1, 2), 0);
        sentence("==== 2: else it has one CELL");
        define(0, "a:bit;b:box;c:int=3;d:int!", 4);
        for (int k = 0; k < 4; k++) {
            due("field", x.field(0, k, 2), 1);
        }
        sentence("==== 2: FAULT of an N that may not be where its digits begin: 0");
        fault("a:bit[0]", 6);
        fault("a:bit[00]", 6);
        fault("b:bit;a:bit[0]", 12);
        fault("a:box[0]", 6);
        sentence("==== 2: FAULT of an N that may not be where its digits begin: above 16");
        fault("a:bit[17]", 6);
        fault("a:bit[18]", 6);
        fault("a:bit[20]", 6);
        fault("a:bit[99]", 6);
        fault("a:double[17]!", 9);
        fault("a:bit[17];b:bit", 6);
        sentence("==== 2: three digits: the third is the byte with which no such text goes on");
        fault("a:bit[123]", 8);
        fault("a:bit[016]", 8);
        sentence("==== 2: neither a digit nor ]");
        fault("a:bit[a]", 6);
        fault("a:bit[-1]", 6);
        fault("a:bit[[", 6);
        fault("a:bit[/", 6);
        fault("a:bit[:", 6);
        fault("a:bit[1a]", 7);
        fault("a:bit[1/]", 7);
        fault("a:bit[1:]", 7);
        fault("a:bit[12;", 8);
        fault("a:bit]", 5);
        sentence("==== 2: brackets stand once, ahead of = and !");
        fault("a:bit[][]", 7);
        fault("a:bit[1][1]", 8);
        fault("a:bit=1[1]", 7);
        fault("a:bit![1]", 6);
    }

    private void defaults(String number, int value) {
        define(0, "a:int=" + number, 1);
        due("field", x.field(0, 0, 4), 1);
        due("field", x.field(0, 0, 5), value);
    }

    private void defaults() {
        sentence("==== 2: = and a number, 1 to 6 digits");
        defaults("0", 0);
        defaults("9", 9);
        defaults("12", 12);
        defaults("123", 123);
        defaults("1234", 1234);
        defaults("12345", 12345);
        defaults("999999", 999999);
        defaults("000001", 1);
        sentence("==== 2: if one likes -");
        defaults("-0", 0);
        defaults("-1", -1);
        defaults("-999999", -999999);
        defaults("-000070", -70);
        sentence("==== 2: no digit");
        fault("a:int=", 6);
        fault("a:int=;b:int", 6);
        fault("a:int=!", 6);
        fault("a:int=a", 6);
        fault("a:int=/", 6);
        fault("a:int=:", 6);
        fault("a:int=+1", 6);
        fault("a:int=-", 7);
        fault("a:int=-!", 7);
        fault("a:int=--1", 7);
        sentence("==== 2: a seventh digit");
        fault("a:int=1234567", 12);
        fault("a:int=0000000", 12);
        fault("a:int=-1234567", 13);
        fault("a:int=999999a", 12);
        sentence("==== 2: a DEFAULT, but not for box");
        fault("a:box=1", 5);
        fault("a:box[2]=1", 8);
        fault("a:box[]=1", 7);
        fault("a:box=", 5);
        for (int kind = 0; kind < 8; kind++) {
            define(0, "a:" + WORDS[kind] + "=1", 1);
        }
        sentence("==== 2: = stands once, ahead of !");
        fault("a:int=1=1", 7);
        fault("a:int!=1", 6);
        fault("a:int=1-", 7);
        sentence("==== 2: a DEFAULT of one FIELD is none of the next");
        define(0, "a:int=5;b:int;c:box;d:int[2]!", 4);
        for (int k = 1; k < 4; k++) {
            due("field", x.field(0, k, 4), 0);
            due("field", x.field(0, k, 5), -2000000000);
        }
    }

    private void needed() {
        sentence("==== 2: then, if one likes, ! : it is NEEDED");
        String[] texts = {"a:int!", "a:box!", "a:int[]!", "a:int[16]!", "a:int=-5!", "a:box[2]!",
            "a:int[2]=1!"};
        for (String text : texts) {
            define(0, text, 1);
            due("field", x.field(0, 0, 3), 1);
            define(0, text.replace("!", ""), 1);
            due("field", x.field(0, 0, 3), 0);
        }
        define(0, "a:int!;b:int", 2);
        due("the next isn't", x.field(0, 1, 3), 0);
        fault("a:int!!", 6);
        fault("a:!int", 2);
        fault("a!:int", 1);
        sentence("==== 2: FAULT, the length, if it ends too early");
        String full = "a:double[16]=-999999!;h:box[]!";
        int[] dues = {-100, -101, -102, -102, -102, -102, -102, -102, 1, -109, -110, -111, 1, -113,
            -114, 1, 1, 1, 1, 1, 1, 1, -122, -123, -124, -124, -124, 2, -128, 2, 2};
        for (int end = 0; end <= full.length(); end++) {
            String text = full.substring(0, end);
            due("define " + text, Check.define(x, 0, text), dues[end]);
        }
    }

    private void longest() {
        sentence("==== 2: a text of all THE TAPE's 160 bytes");
        String field = ":double[16]=-999999!;";
        String text = "a" + field + "b" + field + "c" + field + "d" + field + "e" + field + "f"
            + field + "g:double[16];h:double[1]";
        due("length", text.length(), 156);
        define(0, text + "=-12", 8);
        due("field", x.field(0, 7, 5), -12);
        due("spell", x.spell(0), 157);
        define(0, text + "=0!", 8);
        fault(text + "=0!!", 159);
    }

    private void drop() {
        sentence("14: NONE, version (0 .. 5)");
        define(0, "a:int");
        define(5, "a:int");
        due("drop", x.drop(-1), NONE);
        due("drop", x.drop(6), NONE);
        for (int far : FAR) {
            due("drop", x.drop(far), NONE);
        }
        due("drop", x.drop(0), 1);
        due("drop", x.drop(5), 1);
        sentence("14: STATE, it isn't there");
        for (int v = 0; v < 6; v++) {
            due("drop", x.drop(v), STATE);
        }
        define(2, "a:int");
        due("drop", x.drop(2), 1);
        due("drop", x.drop(2), STATE);
        sentence("14: it is there no more, others are");
        define(1, "a:int");
        define(2, "a:int");
        x.drop(1);
        due("pack", x.pack(1), STATE);
        due("pack", x.pack(2), 5);
        due("count", x.count(4), 1);
        define(1, "b:int");
        due("field", x.field(1, 0, 0), 1);
    }

    private void field() {
        sentence("15: NONE, version (0 .. 5)");
        define(0, "a:int");
        define(5, "a:int");
        due("field", x.field(0, 0, 1), INT);
        due("field", x.field(5, 0, 1), INT);
        due("field", x.field(-1, 0, 1), NONE);
        due("field", x.field(6, 0, 1), NONE);
        for (int far : FAR) {
            due("field", x.field(far, 0, 1), NONE);
        }
        sentence("15: NONE, k (0 .. 7), ahead of STATE");
        due("field", x.field(0, 7, 1), STATE);
        due("field", x.field(0, 8, 1), NONE);
        due("field", x.field(0, -1, 1), NONE);
        for (int far : FAR) {
            due("field", x.field(0, far, 1), NONE);
        }
        sentence("15: NONE, what (0 .. 5), ahead of STATE");
        due("field", x.field(0, 0, 5), STATE);
        due("field", x.field(0, 0, 6), NONE);
        due("field", x.field(0, 0, -1), NONE);
        for (int far : FAR) {
            due("field", x.field(0, 0, far), NONE);
        }
        sentence("15: STATE, it isn't there, ahead of NONE, it has no FIELD k");
        for (int v = 0; v < 6; v++) {
            due("field", x.field(v, 0, 0), STATE);
            due("field", x.field(v, 7, 0), STATE);
        }
        sentence("15: NONE, it has no FIELD k");
        define(0, "a:int");
        due("field", x.field(0, 1, 0), NONE);
        due("field", x.field(0, 7, 0), NONE);
        define(0, EIGHT);
        due("field", x.field(0, 7, 0), 7);
        sentence("15: 2 how many CELLS (0: [])");
        define(0, "a:int[];b:int;c:int[16]");
        due("field", x.field(0, 0, 2), 0);
        due("field", x.field(0, 1, 2), 1);
        due("field", x.field(0, 2, 2), 16);
        sentence("15: 5 its DEFAULT (-2000000000: it has none)");
        define(0, "a:int;b:int=0;c:int=-999999;d:box");
        due("field", x.field(0, 0, 4), 0);
        due("field", x.field(0, 0, 5), -2000000000);
        due("field", x.field(0, 1, 4), 1);
        due("field", x.field(0, 1, 5), 0);
        due("field", x.field(0, 2, 5), -999999);
        due("field", x.field(0, 3, 5), -2000000000);
        sentence("15: 5 the DEFAULT as it is told, whatever the KIND has of it");
        define(0, "a:bit=7;b:byte=300;c:sign=-1");
        due("field", x.field(0, 0, 5), 7);
        due("field", x.field(0, 1, 5), 300);
        due("field", x.field(0, 2, 5), -1);
    }

    private void spelled(String text, String want) {
        define(0, text);
        check.due("spelled " + text, Check.spelled(x, 0), want);
        due("spell", x.spell(0), want.length());
    }

    private void spell() {
        sentence("16: NONE, version (0 .. 5)");
        define(0, "a:int");
        define(5, "a:int");
        due("spell", x.spell(0), 5);
        due("spell", x.spell(5), 5);
        due("spell", x.spell(-1), NONE);
        due("spell", x.spell(6), NONE);
        for (int far : FAR) {
            due("spell", x.spell(far), NONE);
        }
        sentence("16: STATE, it isn't there; THE PAPER stays");
        define(0, "a:int");
        x.spell(0);
        for (int v = 1; v < 6; v++) {
            due("spell", x.spell(v), STATE);
        }
        due("spell", x.spell(6), NONE);
        due("paper", x.count(7), 5);
        due("paper", x.paper(0), 'a');
        sentence("==== 2, SPELLED: without [1]");
        spelled("a:int[1]", "a:int");
        spelled("a:int[01]!", "a:int!");
        spelled("a:box[1]", "a:box");
        spelled("a:int[10];b:int[11]", "a:int[10];b:int[11]");
        spelled("a:int[]", "a:int[]");
        sentence("==== 2, SPELLED: numbers as short as can be");
        spelled("a:int[02]", "a:int[2]");
        spelled("a:int[16]", "a:int[16]");
        spelled("a:int=007", "a:int=7");
        spelled("a:int=-000070!", "a:int=-70!");
        spelled("a:int=0", "a:int=0");
        spelled("a:int=000000", "a:int=0");
        spelled("a:int=-0", "a:int=0");
        spelled("a:int=-999999;b:int=999999", "a:int=-999999;b:int=999999");
        sentence("==== 2, SPELLED: all KINDS, letters in their order");
        spelled("h:bit;g:byte;f:sign;e:short;d:int;c:long;b:float;a:double",
            "h:bit;g:byte;f:sign;e:short;d:int;c:long;b:float;a:double");
        spelled("a:bit=300", "a:bit=300");
    }

    private void paper() {
        sentence("==== 2: THE PAPER, nothing at first");
        due("count", x.count(7), 0);
        due("paper", x.paper(0), NONE);
        define(0, "a:int");
        due("paper", x.paper(0), NONE);
        sentence("17: NONE, i");
        define(0, "a:int");
        x.spell(0);
        due("paper", x.paper(0), 'a');
        due("paper", x.paper(4), 't');
        due("paper", x.paper(5), NONE);
        due("paper", x.paper(-1), NONE);
        for (int far : FAR) {
            due("paper", x.paper(far), NONE);
        }
        sentence("==== 2: THE PAPER holds the latest one");
        define(0, "a:int[16]");
        define(1, "b:bit");
        due("spell", x.spell(0), 9);
        due("spell", x.spell(1), 5);
        due("paper", x.paper(0), 'b');
        due("paper", x.paper(4), 't');
        due("nothing of the longer one", x.paper(5), NONE);
        define(1, "c:int");
        x.drop(0);
        due("a later VERSION doesn't change it", x.paper(0), 'b');
    }

    private void refusedStays() {
        sentence("12 to 17: what is answered so changes nothing");
        usual();
        String before = state();
        due("feed", x.feed(0, 0x61616161), BAD);
        due("feed", x.feed(2, 0x61), BAD);
        due("define", x.define(6), NONE);
        due("drop", x.drop(6), NONE);
        due("drop", x.drop(4), STATE);
        due("field", x.field(4, 0, 0), STATE);
        due("field", x.field(0, 2, 0), NONE);
        due("spell", x.spell(4), STATE);
        due("spell", x.spell(6), NONE);
        due("paper", x.paper(200), NONE);
        check.due("state", state(), before);
        sentence("13: a FAULT changes THE TAPE alone");
        usual();
        before = state();
        due("define", x.define(0), -102);
        Check.feed(x, "a:i");
        check.due("state", state(), before);
    }

    private void all() {
        feedBad();
        feedFull();
        defineNone();
        fields();
        letters();
        words();
        numbersOfCells();
        defaults();
        needed();
        longest();
        drop();
        field();
        spell();
        paper();
        refusedStays();
        check.end();
    }

    public static void main(String[] args) {
        new EdgesOfVersionsTest().all();
    }
}
