import java.io.IOException;
import java.nio.file.Files;
import java.nio.file.Path;
import java.util.List;
import java.util.Set;
import java.util.regex.Matcher;
import java.util.regex.Pattern;

/** What can be seen of the rules of LANGUAGE.md in the text of the program. */
public final class LanguageTest {
    private static final List<String> NOT_ALLOWED = List.of("\\bimport\\b", "\\bpackage\\b",
        "\\btry\\b", "\\bcatch\\b", "\\bfinally\\b", "\\bthrow\\b", "\\bthrows\\b",
        "\\bsynchronized\\b", "\\bassert\\b", "\\bprotected\\b", "\\bfloat\\b", "\\bdouble\\b",
        "\\bvar\\b", "\\bvolatile\\b", "\\bnative\\b", "->", "::", "\\bstatic\\s*\\{", "@\\w+",
        "\\bhashCode\\b", "\\bequals\\b", "\\bObject\\b", "\\w\\s*%\\s*\\w", "\\w\\s+/\\s+\\w");
    private static final Set<String> LIBRARY = Set.of("Math.max", "Math.min", "Math.abs",
        "System.arraycopy", "Long.MIN_VALUE");

    private LanguageTest() {
    }

    /** The text without its comments, and with its constant texts emptied. */
    private static String bare(String text) {
        return text.replaceAll("(?s)/\\*.*?\\*/", "").replaceAll("//[^\n]*", "")
            .replaceAll("\"[^\"\n]*\"", "\"\"").replaceAll("'[^'\n]'", "0");
    }

    private static void methods(Check check, String text) {
        Pattern head = Pattern.compile("(?m)^( +)((?:\\w+(?:\\[\\])* )*\\w+)\\(([^)]*)\\) \\{$");
        Matcher m = head.matcher(text);
        while (m.find()) {
            if (m.group(2).matches("(if|for|while|switch|else if|return .*)")) {
                continue;
            }
            int close = text.indexOf("\n" + m.group(1) + "}", m.end());
            long lines = text.substring(m.start(), close).lines().count();
            check.due(m.group(2) + " has " + lines + " lines", lines <= 60 ? 1 : 0, 1);
            int parameters = m.group(3).isEmpty() ? 0 : m.group(3).split(",").length;
            check.due(m.group(2) + " has parameters", parameters <= 7 ? 1 : 0, 1);
        }
    }

    public static void main(String[] args) throws IOException {
        Check check = new Check();
        check.about("language");
        String whole = Files.readString(Path.of("src/main/java/RowMarshal.java"));
        check.due("signs", whole.chars().filter(c -> c > 127).count(), 0);
        String text = bare(whole);
        for (String one : NOT_ALLOWED) {
            check.due(one, Pattern.compile(one).matcher(text).find() ? 1 : 0, 0);
        }
        Matcher library = Pattern.compile("\\b(Math|System|Long|Integer|String|Arrays)\\.\\w+")
            .matcher(text);
        while (library.find()) {
            check.due(library.group(), LIBRARY.contains(library.group()) ? 1 : 0, 1);
        }
        Matcher fixed = Pattern.compile("(?m)^\\s+(.*\\bstatic\\b[^({]*)[=;]").matcher(text);
        while (fixed.find()) {
            check.due(fixed.group(1), fixed.group(1).contains("final") ? 1 : 0, 1);
        }
        Matcher classes = Pattern.compile("\\bclass\\b").matcher(text);
        check.due("classes", classes.results().count() <= 12 ? 1 : 0, 1);
        methods(check, text);
        check.end();
    }
}
