import java.lang.reflect.Constructor;
import java.lang.reflect.Field;
import java.lang.reflect.Method;
import java.lang.reflect.Modifier;
import java.util.Arrays;
import java.util.Set;
import java.util.TreeSet;

/** The public face, and rule 1 of LANGUAGE.md: nothing else can be seen from outside. */
final class FaceTest {
    private static final String[] METHODS = {
        "bound()int:IllegalStateException",
        "circuit(int)int:IllegalStateException",
        "count(int)int:IllegalStateException",
        "depth()int:IllegalStateException",
        "go(int,int)int:IllegalStateException,IndexOutOfBoundsException",
        "holds(int)boolean:IllegalStateException",
        "length()int:",
        "load()int:IllegalArgumentException,UnsupportedOperationException",
        "output(int,int)boolean:IllegalStateException,IndexOutOfBoundsException",
        "rounds()int:IllegalStateException",
        "safe()boolean:IllegalStateException",
        "size(int)int:IllegalStateException",
        "type(long)boolean:",
        "wipe()void:",
        "witness(int)int:IllegalStateException"
    };

    public static void main(String[] args) {
        Class<?> face = CircuitProver.class;
        Check.same("the class is public and final", face.getModifiers(),
                Modifier.PUBLIC | Modifier.FINAL);
        methods(face);
        fields(face);
        constructors(face);
        Check.same("NONE", CircuitProver.NONE, -1);
        Check.end("FaceTest");
    }

    private static void methods(Class<?> face) {
        Set<String> seen = new TreeSet<>();
        Set<String> names = new TreeSet<>();
        for (Method method : face.getDeclaredMethods()) {
            if (!Modifier.isPrivate(method.getModifiers())) {
                Check.same("modifiers of " + method.getName(), method.getModifiers(),
                        Modifier.PUBLIC);
                seen.add(method.getName() + "(" + names(method.getParameterTypes()) + ")"
                        + method.getReturnType() + ":" + names(method.getExceptionTypes()));
                names.add(method.getName());
            }
        }
        Check.same("the public methods", seen.toString(), Arrays.toString(METHODS));
        noPrivateNamesake(face, names);
        for (Class<?> inside : face.getDeclaredClasses()) {
            Check.same(inside + " is static", Modifier.isStatic(inside.getModifiers()), true);
            noPrivateNamesake(inside, names);
        }
    }

    private static void noPrivateNamesake(Class<?> where, Set<String> names) {
        for (Method method : where.getDeclaredMethods()) {
            boolean isFace = where == CircuitProver.class
                    && Modifier.isPublic(method.getModifiers());
            Check.same(where + " has a namesake of " + method.getName(),
                    !isFace && names.contains(method.getName()), false);
        }
    }

    private static String names(Class<?>[] types) {
        StringBuilder all = new StringBuilder();
        for (Class<?> type : types) {
            all.append(all.length() == 0 ? "" : ",").append(type.getSimpleName());
        }
        return all.toString();
    }

    private static void fields(Class<?> face) {
        for (Field field : face.getDeclaredFields()) {
            boolean isNone = field.getName().equals("NONE")
                    && field.getModifiers()
                            == (Modifier.PUBLIC | Modifier.STATIC | Modifier.FINAL);
            Check.same("field " + field.getName() + " is hidden",
                    isNone || Modifier.isPrivate(field.getModifiers()), true);
        }
    }

    private static void constructors(Class<?> face) {
        Constructor<?>[] all = face.getDeclaredConstructors();
        Check.same("constructors", all.length, 1);
        Check.same("constructor's modifiers", all[0].getModifiers(), Modifier.PUBLIC);
        Check.same("constructor's parameters", all[0].getParameterCount(), 0);
    }
}
