import java.lang.reflect.Constructor;
import java.lang.reflect.Field;
import java.lang.reflect.Method;
import java.lang.reflect.Modifier;
import java.util.Arrays;
import java.util.HashSet;
import java.util.Set;
import java.util.TreeSet;

/** The members of the class are those of the document's face, and no other can be seen from outside. */
public final class FaceTest {
    private static final String[] FACE = {
        "int feed(int, int, int, int) IllegalStateException",
        "int bit(int, int) IndexOutOfBoundsException, IllegalArgumentException",
        "int rewind(int) IndexOutOfBoundsException",
        "int weight(int, int, int) IndexOutOfBoundsException, IllegalArgumentException",
        "long build(int, int) IndexOutOfBoundsException, IllegalArgumentException, IllegalStateException",
        "long alias(int, int, int) IndexOutOfBoundsException, IllegalStateException",
        "long draw(int, int, int, int) IllegalArgumentException, IllegalStateException, NoSuchElementException",
        "int item(int) IndexOutOfBoundsException",
        "int decided(int, int, int, int, int, int) IllegalArgumentException, IllegalStateException",
        "int undecided(int, int, int, int, int) IllegalArgumentException, IllegalStateException",
        "long journal(int, int) IndexOutOfBoundsException",
        "boolean replay(int) IndexOutOfBoundsException",
        "int count(int) ",
    };

    public static void main(String[] args) {
        Class<?> desk = SampleDesk.class;
        Check.holds("the class is public and final",
                Modifier.isPublic(desk.getModifiers()) && Modifier.isFinal(desk.getModifiers()));
        methods(desk);
        constructorsAndFields(desk);
        inside(desk);
        Check.due("NONE", SampleDesk.NONE, -1);
        Check.end();
    }

    private static void methods(Class<?> desk) {
        Set<String> seen = new TreeSet<>();
        Set<String> publicNames = new HashSet<>();
        Set<String> privateNames = new HashSet<>();
        for (Method m : desk.getDeclaredMethods()) {
            if (Modifier.isPrivate(m.getModifiers())) {
                privateNames.add(m.getName());
            } else {
                seen.add(told(m));
                publicNames.add(m.getName());
            }
        }
        Check.same("the methods", seen, new TreeSet<>(Arrays.asList(FACE)));
        for (Class<?> inside : desk.getDeclaredClasses()) {
            for (Method m : inside.getDeclaredMethods()) {
                privateNames.add(m.getName());
            }
        }
        privateNames.retainAll(publicNames);
        Check.same("methods inside with the name of a public one", privateNames, Set.of());
    }

    private static String told(Method m) {
        return m.getReturnType() + " " + m.getName() + "(" + names(m.getParameterTypes()) + ") "
                + names(m.getExceptionTypes());
    }

    private static String names(Class<?>[] types) {
        StringBuilder out = new StringBuilder();
        for (Class<?> type : types) {
            out.append(out.length() == 0 ? "" : ", ").append(type.getSimpleName());
        }
        return out.toString();
    }

    private static void constructorsAndFields(Class<?> desk) {
        Constructor<?>[] made = desk.getDeclaredConstructors();
        Check.due("constructors", made.length, 1);
        Check.holds("the constructor is public and takes nothing",
                Modifier.isPublic(made[0].getModifiers()) && made[0].getParameterCount() == 0);
        for (Field f : desk.getDeclaredFields()) {
            boolean isNone = f.getName().equals("NONE");
            Check.holds("field " + f.getName(), isNone || Modifier.isPrivate(f.getModifiers()));
            Check.holds("field " + f.getName() + ", when static, is final",
                    !Modifier.isStatic(f.getModifiers()) || Modifier.isFinal(f.getModifiers()));
        }
    }

    private static void inside(Class<?> desk) {
        Class<?>[] classes = desk.getDeclaredClasses();
        Check.holds("at most twelve classes in the file", classes.length + 1 <= 12);
        for (Class<?> c : classes) {
            int m = c.getModifiers();
            Check.holds(c.getName() + " is static and not for all", Modifier.isStatic(m) && !Modifier.isPublic(m)
                    && !Modifier.isProtected(m));
        }
    }
}
