import java.lang.reflect.Constructor;
import java.lang.reflect.Field;
import java.lang.reflect.Method;
import java.lang.reflect.Modifier;
import java.util.HashSet;
import java.util.Set;
import java.util.TreeSet;

/** The class has the document's face and no other member that can be seen from outside. */
public final class FaceTest {
    private static final Set<String> FACE = Set.of(
            "int member(int)", "int key(int)", "int ring(int)", "int topic(int)", "int base(int)",
            "int sign(int,int,int,int,int)", "int draft(int)", "void edit(int,int)", "int submit(int,int,int)",
            "int count(int)", "boolean seen(int)", "int recount(int)", "void spoil(int,int,int,int)",
            "int close(int)", "int export(int)", "int bundle(int)", "void poke(int,int)", "void cut(int)",
            "int check()");

    public static void main(String[] args) {
        Due due = new Due();
        Class<?> face = RingPetition.class;
        due.is("the class is public and final",
                Modifier.isPublic(face.getModifiers()) && Modifier.isFinal(face.getModifiers()), true);
        constructors(due, face);
        methods(due, face);
        for (Field field : face.getDeclaredFields()) {
            due.is("field " + field.getName() + " is private", Modifier.isPrivate(field.getModifiers()), true);
            if (Modifier.isStatic(field.getModifiers())) {
                due.is("static " + field.getName() + " is final", Modifier.isFinal(field.getModifiers()), true);
            }
        }
        for (Class<?> inside : face.getDeclaredClasses()) {
            due.is("class " + inside.getSimpleName() + " is static and not public",
                    Modifier.isStatic(inside.getModifiers()) && !Modifier.isPublic(inside.getModifiers())
                            && !Modifier.isProtected(inside.getModifiers()), true);
        }
        due.finish("FaceTest");
    }

    private static void constructors(Due due, Class<?> face) {
        Constructor<?>[] all = face.getDeclaredConstructors();
        due.is("constructors", all.length, 1);
        due.is("the constructor is public", Modifier.isPublic(all[0].getModifiers()), true);
        due.is("the constructor's parameters", all[0].getParameterCount(), 0);
    }

    private static void methods(Due due, Class<?> face) {
        Set<String> found = new TreeSet<>();
        Set<String> publicNames = new HashSet<>();
        for (String line : FACE) {
            publicNames.add(line.substring(line.indexOf(' ') + 1, line.indexOf('(')));
        }
        for (Method method : face.getDeclaredMethods()) {
            if (method.isSynthetic()) {
                continue;
            }
            if (Modifier.isPublic(method.getModifiers())) {
                found.add(told(method));
            } else {
                due.is("method " + method.getName() + " is private", Modifier.isPrivate(method.getModifiers()), true);
                due.is("private " + method.getName() + " bears a public name",
                        publicNames.contains(method.getName()), false);
            }
        }
        due.is("the public methods " + found + " are the document's", found.equals(new TreeSet<>(FACE)), true);
    }

    private static String told(Method method) {
        StringBuilder text = new StringBuilder(method.getReturnType().getSimpleName());
        text.append(' ').append(method.getName()).append('(');
        for (int i = 0; i < method.getParameterCount(); i++) {
            text.append(i == 0 ? "" : ",").append(method.getParameterTypes()[i].getSimpleName());
        }
        return text.append(')').toString();
    }
}
