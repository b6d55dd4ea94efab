import java.lang.reflect.Constructor;
import java.lang.reflect.Field;
import java.lang.reflect.Method;
import java.lang.reflect.Modifier;
import java.util.Set;
import java.util.TreeSet;

/** The face is the document's, and no member beyond it can be seen from outside. */
public final class FaceTest {
    private static final String[] METHODS = {
        "int make(int,int,int)", "int thing(int,int)", "int same(int,int)", "int of(int,int)",
        "int read(int,int,int)", "long latch(int)", "int write(int,int,int,long)",
        "int real(int,int,int,int,int)", "int box(int,int,int,long)", "int lax(int)",
        "int feed(int,int)", "int define(int)", "int drop(int)", "int field(int,int,int)",
        "int spell(int)", "int paper(int)", "int pack(int)", "int load(int,int)", "int stop(int)",
        "int wire(int)", "int poke(int,int)", "int cut(int)", "int frame(int,int)",
        "int bytes(int)", "int mode(int,int,int)", "int smallest()", "int scan(int)",
        "int found(int)", "int fit(int,int,int)", "int trip(int,int)", "int alike(int,int)",
        "long digest(int)", "int image()", "int back()", "int count(int)"};

    private FaceTest() {
    }

    private static String told(Method method) {
        StringBuilder text = new StringBuilder();
        text.append(method.getReturnType()).append(' ').append(method.getName()).append('(');
        String comma = "";
        for (Class<?> one : method.getParameterTypes()) {
            text.append(comma).append(one);
            comma = ",";
        }
        return text.append(')').toString();
    }

    public static void main(String[] args) {
        Check check = new Check();
        check.about("face");
        Set<String> names = new TreeSet<>();
        Set<String> open = new TreeSet<>();
        for (Method method : RowMarshal.class.getDeclaredMethods()) {
            if (!Modifier.isPrivate(method.getModifiers())) {
                open.add(told(method));
                names.add(method.getName());
                check.due("public " + method, Modifier.isPublic(method.getModifiers()) ? 1 : 0, 1);
                check.due("static " + method, Modifier.isStatic(method.getModifiers()) ? 1 : 0, 0);
            }
        }
        check.due("methods", open.toString(), new TreeSet<>(Set.of(METHODS)).toString());
        Set<String> fields = new TreeSet<>();
        for (Field field : RowMarshal.class.getDeclaredFields()) {
            if (!Modifier.isPrivate(field.getModifiers())) {
                fields.add(field.toString().replace("RowMarshal.", ""));
            }
        }
        check.due("constants", fields.toString(), "[public static final int BAD, "
            + "public static final int FULL, public static final int NONE, "
            + "public static final int STATE, public static final long NO]");
        Constructor<?>[] makers = RowMarshal.class.getDeclaredConstructors();
        check.due("constructors", makers.length == 1 ? makers[0].toString() : "several",
            "public RowMarshal()");
        check.due("final", Modifier.isFinal(RowMarshal.class.getModifiers()) ? 1 : 0, 1);
        for (Class<?> inside : RowMarshal.class.getDeclaredClasses()) {
            check.due(inside + " static", Modifier.isStatic(inside.getModifiers()) ? 1 : 0, 1);
            check.due(inside + " public", Modifier.isPublic(inside.getModifiers()) ? 1 : 0, 0);
            for (Method method : inside.getDeclaredMethods()) {
                check.due(inside + " has " + method, names.contains(method.getName()) ? 1 : 0, 0);
            }
        }
        for (Method method : RowMarshal.class.getDeclaredMethods()) {
            if (Modifier.isPrivate(method.getModifiers())) {
                check.due("private " + method, names.contains(method.getName()) ? 1 : 0, 0);
            }
        }
        check.due("NONE", RowMarshal.NONE, -1);
        check.due("BAD", RowMarshal.BAD, -2);
        check.due("STATE", RowMarshal.STATE, -3);
        check.due("FULL", RowMarshal.FULL, -4);
        check.due("NO", RowMarshal.NO, Long.MIN_VALUE);
        check.end();
    }
}
