import java.lang.reflect.Constructor;
import java.lang.reflect.Field;
import java.lang.reflect.Method;
import java.lang.reflect.Modifier;
import java.util.Arrays;
import java.util.Set;
import java.util.TreeSet;

/** The face is the document's and nothing more (LANGUAGE.md, rules 1 and 5). */
public final class FaceTest {
    private static final Set<String> FACE = Set.of(
        "int record()",
        "int value(int, int, int)",
        "boolean gone(int, int, int)",
        "int narrower(int, int, int)",
        "int hit(int, boolean)",
        "int choose(int, int)",
        "int count(int, int)",
        "int top(int, int)",
        "int below(int, boolean, int, int)",
        "int band(int, int, int)",
        "long share(int, int, int) throws java.lang.ArithmeticException",
        "int missing(int)",
        "int left(int)");

    public static void main(String[] args) {
        Due due = new Due();
        due.part("the face");
        due.isTrue("the class is public and final",
            Modifier.isPublic(FacetRows.class.getModifiers()) && Modifier.isFinal(FacetRows.class.getModifiers()));
        due.isTrue("the class extends and implements nothing",
            FacetRows.class.getSuperclass() == Object.class && FacetRows.class.getInterfaces().length == 0);
        methods(due);
        fields(due);
        Constructor<?>[] all = FacetRows.class.getDeclaredConstructors();
        due.is("constructors", all.length, 1);
        due.isTrue("the constructor is public, without parameters",
            Modifier.isPublic(all[0].getModifiers()) && all[0].getParameterCount() == 0);
        due.end();
    }

    private static void methods(Due due) {
        Set<String> found = new TreeSet<>();
        Set<String> open = new TreeSet<>();
        Set<String> hidden = new TreeSet<>();
        for (Method m : FacetRows.class.getDeclaredMethods()) {
            if (Modifier.isPrivate(m.getModifiers())) {
                hidden.add(m.getName());
                continue;
            }
            due.is(m.getName() + " is public and nothing else", m.getModifiers(), Modifier.PUBLIC);
            open.add(m.getName());
            found.add(written(m));
        }
        due.isTrue("the methods are the document's: " + found, found.equals(FACE));
        hidden.retainAll(open);
        due.isTrue("no private method bears a public one's name: " + hidden, hidden.isEmpty());
    }

    private static String written(Method m) {
        StringBuilder text = new StringBuilder(m.getReturnType() + " " + m.getName());
        text.append(Arrays.toString(m.getParameterTypes()).replace('[', '(').replace(']', ')'));
        for (Class<?> thrown : m.getExceptionTypes()) {
            text.append(" throws ").append(thrown.getName());
        }
        return text.toString();
    }

    private static void fields(Due due) {
        for (Field f : FacetRows.class.getDeclaredFields()) {
            int how = f.getModifiers();
            if (f.getName().equals("NONE")) {
                due.is("NONE is public static final", how, Modifier.PUBLIC | Modifier.STATIC | Modifier.FINAL);
                due.isTrue("NONE is an int", f.getType() == int.class);
                continue;
            }
            due.isTrue(f.getName() + " is private", Modifier.isPrivate(how));
            due.isTrue(f.getName() + " is final if static", !Modifier.isStatic(how) || Modifier.isFinal(how));
        }
    }
}
