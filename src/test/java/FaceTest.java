import java.lang.reflect.Constructor;
import java.lang.reflect.Field;
import java.lang.reflect.Method;
import java.lang.reflect.Modifier;
import java.util.Arrays;
import java.util.Set;
import java.util.TreeSet;

/** The public face of the document and the rules 1 and 5 of LANGUAGE.md, as far as a class shows them. */
public final class FaceTest {
    private static final Check check = new Check();

    private static final String A = " throws IllegalArgumentException";
    private static final String S = A + ", IllegalStateException";

    private static final String[] FACE = {
        "int zone(int, int)" + S,
        "int set(int, int, int)" + A,
        "void want(int, int, int)" + A,
        "int outside(int, int)" + S,
        "int machine(int)" + A,
        "int start(int)" + A,
        "boolean late(int)" + A,
        "int at(int, int)" + A,
        "int used(int)" + A,
        "int cold(int)" + A,
        "void fade(int, int)" + A,
        "void day(int, int)" + A,
        "long lesson(int, int)" + A,
        "int taught(int)" + A,
        "int price(int, int)" + A,
        "int cheapest(int, int, int)" + S,
        "long costs(int, int, int, int)" + S,
    };

    public static void main(String[] args) {
        Class<?> c = StartTimes.class;
        check.dueText("the class", Modifier.toString(c.getModifiers()), "public final");
        check.dueText("its package", c.getPackageName(), "");
        methods(c);
        constructors(c);
        fields(c);
        for (Class<?> inside : c.getDeclaredClasses()) {
            int m = inside.getModifiers();
            check.due("static " + inside, Modifier.isStatic(m), true);
            check.due("not public " + inside, Modifier.isPublic(m) || Modifier.isProtected(m), false);
            staticFieldsAreFinal(inside);
        }
        check.end();
    }

    private static void methods(Class<?> c) {
        Set<String> got = new TreeSet<>();
        Set<String> open = new TreeSet<>();
        for (Method m : c.getDeclaredMethods()) {
            if (!Modifier.isPrivate(m.getModifiers())) {
                check.dueText(m.getName(), Modifier.toString(m.getModifiers()), "public");
                got.add(written(m));
                open.add(m.getName());
            }
        }
        check.dueText("the methods", got.toString(), new TreeSet<>(Arrays.asList(FACE)).toString());
        for (Method m : c.getDeclaredMethods()) {
            boolean hidden = Modifier.isPrivate(m.getModifiers());
            check.due("a private " + m.getName(), hidden && open.contains(m.getName()), false);
        }
    }

    private static String written(Method m) {
        return m.getReturnType().getSimpleName() + " " + m.getName() + "(" + names(m.getParameterTypes())
            + ") throws " + names(m.getExceptionTypes());
    }

    private static String names(Class<?>[] types) {
        StringBuilder text = new StringBuilder();
        for (Class<?> t : types) {
            text.append(text.length() == 0 ? "" : ", ").append(t.getSimpleName());
        }
        return text.toString();
    }

    private static void constructors(Class<?> c) {
        Constructor<?>[] all = c.getDeclaredConstructors();
        check.due("constructors", all.length, 1);
        check.dueText("the constructor", all[0].toString(), "public StartTimes()");
    }

    private static void fields(Class<?> c) {
        for (Field f : c.getDeclaredFields()) {
            boolean constant = f.getName().equals("NONE");
            check.dueText(f.getName(), Modifier.toString(f.getModifiers() & ~Modifier.FINAL & ~Modifier.STATIC),
                constant ? "public" : "private");
        }
        staticFieldsAreFinal(c);
    }

    private static void staticFieldsAreFinal(Class<?> c) {
        for (Field f : c.getDeclaredFields()) {
            int m = f.getModifiers();
            check.due("static but not final: " + f, Modifier.isStatic(m) && !Modifier.isFinal(m), false);
        }
    }
}
