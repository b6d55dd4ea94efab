import java.io.DataInputStream;
import java.io.IOException;
import java.nio.file.Files;
import java.nio.file.Path;
import java.util.List;
import java.util.Set;
import java.util.regex.Matcher;
import java.util.regex.Pattern;

/** What can be seen of the rules of LANGUAGE.md in the text of the program. */
public final class LanguageTest {
    private static final List<String> NOT_ALLOWED = List.of("\\bimport\\b", "\\bpackage\\b",
        "\\btry\\b", "\\bcatch\\b", "\\bfinally\\b", "\\bthrow\\b", "\\bthrows\\b",
        "\\bsynchronized\\b", "\\bassert\\b", "\\bprotected\\b", "\\bfloat\\b", "\\bdouble\\b",
        "\\bvar\\b", "\\bvolatile\\b", "\\bnative\\b", "->", "::", "\\bstatic\\s*\\{", "@\\w+",
        "\\bhashCode\\b", "\\bequals\\b", "\\bObject\\b", "\\w\\s*%\\s*\\w", "\\w\\s+/\\s+\\w");
    private static final Set<String> LIBRARY = Set.of("Math.max", "Math.min", "Math.abs",
        "System.arraycopy", "Long.MIN_VALUE");

    /** What rule 4 lists, as far as the class may come to use it, as the compiled form names it. */
    private static final Set<String> CALLED = Set.of("java/lang/Object.<init>",
        "java/lang/String.length", "java/lang/String.charAt", "java/lang/String.isEmpty",
        "java/lang/String.equals", "java/lang/String.indexOf", "java/lang/String.substring",
        "java/lang/String.toCharArray", "java/lang/StringBuilder.<init>",
        "java/lang/StringBuilder.append", "java/lang/StringBuilder.charAt",
        "java/lang/StringBuilder.setCharAt", "java/lang/StringBuilder.setLength",
        "java/lang/StringBuilder.deleteCharAt", "java/lang/StringBuilder.reverse",
        "java/lang/StringBuilder.length", "java/lang/StringBuilder.toString",
        "java/lang/Math.max", "java/lang/Math.min", "java/lang/Math.abs",
        "java/lang/System.arraycopy");
    private static final int UTF8 = 1, LONG = 5, DOUBLE = 6, CLASS = 7, METHOD = 10;
    private static final int INTERFACE_METHOD = 11, NAME_AND_TYPE = 12, HANDLE = 15;

    private LanguageTest() {
    }

    /** The text without its comments, and with its constant texts emptied. */
    private static String bare(String text) {
        return text.replaceAll("(?s)/\\*.*?\\*/", "").replaceAll("//[^\n]*", "")
            .replaceAll("\"[^\"\n]*\"", "\"\"").replaceAll("'[^'\n]'", "0");
    }

    private static void methods(Check check, String text) {
        Pattern head = Pattern.compile("(?m)^( +)((?:\\w+(?:\\[\\])* )*\\w+)\\(([^)]*)\\) \\{$");
        Matcher m = head.matcher(text);
        while (m.find()) {
            if (m.group(2).matches("(if|for|while|switch|else if|return .*)")) {
                continue;
            }
            int close = text.indexOf("\n" + m.group(1) + "}", m.end());
            long lines = text.substring(m.start(), close).lines().count();
            check.due(m.group(2) + " has " + lines + " lines", lines <= 60 ? 1 : 0, 1);
            int parameters = m.group(3).isEmpty() ? 0 : m.group(3).split(",").length;
            check.due(m.group(2) + " has parameters", parameters <= 7 ? 1 : 0, 1);
        }
    }

    /** Every method outside the class that its compiled form can call is one of CALLED. */
    private static void library(Check check, Class<?> compiled) throws IOException {
        String file = compiled.getName() + ".class";
        try (DataInputStream in = new DataInputStream(compiled.getResourceAsStream(file))) {
            in.skipBytes(8);
            int size = in.readUnsignedShort();
            int[] tags = new int[size];
            int[] first = new int[size];
            int[] second = new int[size];
            String[] texts = new String[size];
            for (int i = 1; i < size; i++) {
                tags[i] = in.readUnsignedByte();
                if (tags[i] == UTF8) {
                    texts[i] = in.readUTF();
                } else if (tags[i] == LONG || tags[i] == DOUBLE) {
                    in.readLong();
                    i++;
                } else if (tags[i] == HANDLE) {
                    in.skipBytes(3);
                } else {
                    first[i] = in.readUnsignedShort();
                    boolean two = tags[i] < CLASS || tags[i] > 8 && tags[i] <= NAME_AND_TYPE
                        || tags[i] == 17 || tags[i] == 18;
                    second[i] = two ? in.readUnsignedShort() : 0;
                }
            }
            for (int i = 1; i < size; i++) {
                if (tags[i] == METHOD || tags[i] == INTERFACE_METHOD) {
                    String owner = texts[first[first[i]]];
                    String called = owner + "." + texts[first[second[i]]];
                    boolean own = owner.startsWith("RowMarshal") || owner.startsWith("[");
                    check.due("calls " + called, own || CALLED.contains(called) ? 1 : 0, 1);
                }
            }
        }
    }

    public static void main(String[] args) throws IOException {
        Check check = new Check();
        check.about("language");
        String whole = Files.readString(Path.of("src/main/java/RowMarshal.java"));
        check.due("signs", whole.chars().filter(c -> c > 127).count(), 0);
        String text = bare(whole);
        for (String one : NOT_ALLOWED) {
            check.due(one, Pattern.compile(one).matcher(text).find() ? 1 : 0, 0);
        }
        Matcher library = Pattern.compile("\\b(Math|System|Long|Integer|String|Arrays)\\.\\w+")
            .matcher(text);
        while (library.find()) {
            check.due(library.group(), LIBRARY.contains(library.group()) ? 1 : 0, 1);
        }
        Matcher fixed = Pattern.compile("(?m)^\\s+(.*\\bstatic\\b[^({]*)[=;]").matcher(text);
        while (fixed.find()) {
            check.due(fixed.group(1), fixed.group(1).contains("final") ? 1 : 0, 1);
        }
        Matcher classes = Pattern.compile("\\bclass\\b").matcher(text);
        check.due("classes", classes.results().count() <= 12 ? 1 : 0, 1);
        methods(check, text);
        library(check, RowMarshal.class);
        for (Class<?> inside : RowMarshal.class.getDeclaredClasses()) {
            library(check, inside);
        }
        check.end();
    }
}
