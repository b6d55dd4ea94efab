import java.io.File;
import java.io.IOException;
import java.lang.reflect.InvocationTargetException;
import java.lang.reflect.Method;
import java.lang.reflect.Modifier;
import java.nio.file.Files;
import java.nio.file.Path;
import java.util.regex.Matcher;
import java.util.regex.Pattern;

/** What README.md says: each call of its example has the answer that stands behind it. */
public final class ReadmeTest {
    private static final Pattern ANSWERED =
        Pattern.compile("(x\\.(\\w+)\\(|tell\\(x, )([^)]*)\\); +// (-?\\d+)(:.*|$)");
    private static final Pattern TOLD = Pattern.compile("(\\d), \"([^\"]*)\"");

    private ReadmeTest() {
    }

    /** Tells a version by a text; how many fields it has, or -100 less the place of its fault. */
    static int tell(RowMarshal x, int version, String text) {
        for (int i = 0; i < text.length(); i += 4) {
            int n = Math.min(4, text.length() - i);
            int word = 0;
            for (int j = 0; j < n; j++) {
                word |= text.charAt(i + j) << (8 * j);
            }
            x.feed(n, word);
        }
        return x.define(version);
    }

    /** The text from a line that begins with these words till a line that is this one. */
    private static String part(String text, String first, String last) {
        int begin = text.indexOf(first);
        int end = text.indexOf(last, Math.max(0, begin));
        return begin < 0 || end < 0 ? "" : text.substring(begin, end + last.length());
    }

    private static long answer(RowMarshal x, String name, String arguments)
            throws IllegalAccessException, InvocationTargetException {
        String[] numbers = arguments.isEmpty() ? new String[0] : arguments.split(", ");
        for (Method method : RowMarshal.class.getMethods()) {
            Class<?>[] types = method.getParameterTypes();
            if (!method.getName().equals(name) || types.length != numbers.length) {
                continue;
            }
            Object[] values = new Object[numbers.length];
            for (int i = 0; i < values.length; i++) {
                values[i] = types[i] == long.class ? (Object) Long.valueOf(numbers[i])
                    : (Object) Integer.valueOf(numbers[i]);
            }
            return ((Number) method.invoke(x, values)).longValue();
        }
        throw new IllegalStateException("there is no " + name + " of " + numbers.length);
    }

    private static long answer(RowMarshal x, Matcher line)
            throws IllegalAccessException, InvocationTargetException {
        if (line.group(2) != null) {
            return answer(x, line.group(2), line.group(3));
        }
        Matcher told = TOLD.matcher(line.group(3));
        if (!told.matches()) {
            throw new IllegalStateException(line.group());
        }
        return tell(x, Integer.parseInt(told.group(1)), told.group(2));
    }

    /** Every line of the example is a call with its answer, a comment, or empty. */
    private static void example(Check check, String lines)
            throws IllegalAccessException, InvocationTargetException {
        RowMarshal x = new RowMarshal();
        int calls = 0;
        for (String line : lines.split("\n")) {
            Matcher call = ANSWERED.matcher(line);
            if (call.matches()) {
                check.due(line, answer(x, call), Long.parseLong(call.group(4)));
                calls++;
            } else if (!line.equals("RowMarshal x = new RowMarshal();")) {
                check.due("form of " + line, line.isEmpty() || line.startsWith("// ")
                    || line.equals("```") ? 1 : 0, 1);
            }
        }
        check.due("calls of the example", calls >= 25 ? 1 : 0, 1);
    }

    public static void main(String[] args) throws Exception {
        Check check = new Check();
        check.about("readme");
        String readme = Files.readString(Path.of("README.md"));
        String here = Files.readString(Path.of("src/test/java/ReadmeTest.java"));
        example(check, part(readme, "RowMarshal x = new RowMarshal();\n", "\n```\n"));
        check.due("tell", part(readme, "    /** Tells", "\n    }\n"),
            part(here, "    /** Tells", "\n    }\n"));
        for (Method method : RowMarshal.class.getDeclaredMethods()) {
            if (Modifier.isPublic(method.getModifiers())) {
                String name = "`" + method.getName() + "`";
                check.due("README has " + name, readme.contains(name) ? 1 : 0, 1);
            }
        }
        namesEveryTest(check, readme);
        check.end();
    }

    private static void namesEveryTest(Check check, String readme) throws IOException {
        File[] files = new File("src/test/java").listFiles();
        int named = 0;
        for (File file : files == null ? new File[0] : files) {
            String name = "`" + file.getName().replace(".java", "") + "`";
            check.due("README has " + name, readme.contains(name) ? 1 : 0, 1);
            named++;
        }
        check.due("tests that README names", named > 0 ? 1 : 0, 1);
    }
}
