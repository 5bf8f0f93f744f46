import java.lang.reflect.Constructor;
import java.lang.reflect.Field;
import java.lang.reflect.Method;
import java.lang.reflect.Modifier;
import java.util.HashSet;
import java.util.Set;
import java.util.TreeSet;

/** The class has the document's face, with its exceptions, and no other member that can be seen from outside. */
public final class FaceTest {
    private static final String ARGUMENT = " throws IllegalArgumentException";
    private static final String STATE = " throws IllegalStateException";
    private static final String BOUNDS = " throws IndexOutOfBoundsException";
    private static final String BOTH = ARGUMENT + STATE;

    private static final Set<String> FACE = Set.of(
            "int member(int)" + BOTH, "int key(int)" + ARGUMENT, "int ring(int)" + BOTH, "int topic(int)" + STATE,
            "int base(int)" + ARGUMENT, "int sign(int,int,int,int,int)" + ARGUMENT, "int draft(int)" + BOUNDS,
            "void edit(int,int)" + BOUNDS, "int submit(int,int,int)" + BOTH + " throws UnsupportedOperationException",
            "int count(int)" + ARGUMENT, "boolean seen(int)" + ARGUMENT, "int recount(int)" + ARGUMENT,
            "void spoil(int,int,int,int)" + ARGUMENT + BOUNDS, "int close(int)" + BOTH, "int export(int)" + ARGUMENT,
            "int bundle(int)" + BOUNDS, "void poke(int,int)" + BOUNDS, "void cut(int)" + ARGUMENT,
            "int check()" + ARGUMENT);

    public static void main(String[] args) {
        Due due = new Due();
        Class<?> face = RingPetition.class;
        due.is("the class is public and final",
                Modifier.isPublic(face.getModifiers()) && Modifier.isFinal(face.getModifiers()), true);
        constructors(due, face);
        methods(due, face);
        for (Field field : face.getDeclaredFields()) {
            due.is("field " + field.getName() + " is private", Modifier.isPrivate(field.getModifiers()), true);
            if (Modifier.isStatic(field.getModifiers())) {
                due.is("static " + field.getName() + " is final", Modifier.isFinal(field.getModifiers()), true);
            }
        }
        for (Class<?> inside : face.getDeclaredClasses()) {
            due.is("class " + inside.getSimpleName() + " is static and not public",
                    Modifier.isStatic(inside.getModifiers()) && !Modifier.isPublic(inside.getModifiers())
                            && !Modifier.isProtected(inside.getModifiers()), true);
        }
        due.finish("FaceTest");
    }

    private static void constructors(Due due, Class<?> face) {
        Constructor<?>[] all = face.getDeclaredConstructors();
        due.is("constructors", all.length, 1);
        due.is("the constructor is public", Modifier.isPublic(all[0].getModifiers()), true);
        due.is("the constructor's parameters", all[0].getParameterCount(), 0);
    }

    private static void methods(Due due, Class<?> face) {
        Set<String> found = new TreeSet<>();
        Set<String> publicNames = new HashSet<>();
        for (String line : FACE) {
            publicNames.add(line.substring(line.indexOf(' ') + 1, line.indexOf('(')));
        }
        for (Method method : face.getDeclaredMethods()) {
            if (method.isSynthetic()) {
                continue;
            }
            if (Modifier.isPublic(method.getModifiers())) {
                found.add(told(method));
            } else {
                due.is("method " + method.getName() + " is private", Modifier.isPrivate(method.getModifiers()), true);
                due.is("private " + method.getName() + " bears a public name",
                        publicNames.contains(method.getName()), false);
            }
        }
        due.is("the public methods " + found + " are the document's", found.equals(new TreeSet<>(FACE)), true);
    }

    private static String told(Method method) {
        StringBuilder text = new StringBuilder(method.getReturnType().getSimpleName());
        text.append(' ').append(method.getName()).append('(');
        for (int i = 0; i < method.getParameterCount(); i++) {
            text.append(i == 0 ? "" : ",").append(method.getParameterTypes()[i].getSimpleName());
        }
        text.append(')');
        for (Class<?> exception : method.getExceptionTypes()) {
            text.append(" throws ").append(exception.getSimpleName());
        }
        return text.toString();
    }
}
