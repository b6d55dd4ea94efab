import java.util.HashMap;
import java.util.Map;

/** Counts answers that are not due, and ends the program with 1 if there was one. */
final class Check {
    private int wrong = 0;
    private int asked = 0;
    private String about = "";
    private final Map<String, Integer> answers = new HashMap<>();

    void about(String newAbout) {
        about = newAbout;
    }

    void due(String call, long got, long want) {
        asked++;
        if (want >= -21 && want < 8) {
            answers.merge(call.split(" ")[0] + " " + want, 1, Integer::sum);
        }
        if (got != want) {
            wrong++;
            if (wrong <= 40) {
                System.out.println(about + ": " + call + " answered " + got + ", due is " + want);
            }
        }
    }

    void due(String call, String got, String want) {
        asked++;
        if (!got.equals(want)) {
            wrong++;
            System.out.println(about + ": " + call + " answered " + got + ", due is " + want);
        }
    }

    /** How often an answer was due, by the call's first word and the answer. */
    int times(String answer) {
        return answers.getOrDefault(answer, 0);
    }

    void end() {
        System.out.println(asked + " answers, " + wrong + " not as due");
        if (wrong != 0 || asked == 0) {
            System.exit(1);
        }
    }

    /** Feeds a text to THE TAPE. */
    static void feed(RowMarshal x, String text) {
        for (int i = 0; i < text.length(); i += 4) {
            int n = Math.min(4, text.length() - i);
            int word = 0;
            for (int j = 0; j < n; j++) {
                word |= text.charAt(i + j) << (8 * j);
            }
            x.feed(n, word);
        }
    }

    static int define(RowMarshal x, int version, String text) {
        feed(x, text);
        return x.define(version);
    }

    static String spelled(RowMarshal x, int version) {
        int length = x.spell(version);
        StringBuilder text = new StringBuilder();
        for (int i = 0; i < length; i++) {
            text.append((char) x.paper(i));
        }
        return text.toString();
    }

    /** THE WIRE's bytes from a place on, in hex. */
    static String hex(RowMarshal x, int from, int to) {
        StringBuilder text = new StringBuilder();
        for (int i = from; i < to; i++) {
            text.append(String.format("%02x", x.wire(i)));
        }
        return text.toString();
    }

    /** Makes THE WIRE one FRAME with a right DIGEST round these bytes of a BODY. */
    static void wireOf(RowMarshal x, int version, int... body) {
        int[] all = new int[body.length + 4];
        all[0] = version;
        all[1] = body.length;
        System.arraycopy(body, 0, all, 2, body.length);
        int z = 7;
        for (int i = 0; i < body.length + 2; i++) {
            z = 31 * z + all[i];
        }
        all[body.length + 2] = (z >> 8) & 255;
        all[body.length + 3] = z & 255;
        fill(x, all);
    }

    /** Lays bytes on THE WIRE, over FRAMES packed for their room alone; SLOT 7 holds NOTHING then. */
    static void fill(RowMarshal x, int... all) {
        x.cut(0);
        x.thing(7, 0);
        define(x, 5, "h:bit");
        for (int i = 0; i < 100 && x.wire(-1) < all.length; i++) {
            x.pack(5);
        }
        x.drop(5);
        x.cut(all.length);
        for (int i = 0; i < all.length; i++) {
            x.poke(i, all[i]);
        }
    }
}
