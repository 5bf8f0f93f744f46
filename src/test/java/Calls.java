import java.lang.reflect.InvocationTargetException;
import java.lang.reflect.Method;
import java.util.Arrays;

/** Makes calls by their names, or as they are written ("sign 0 0 1 2 MAX"), and tells the answers as texts. */
final class Calls {
    private Calls() {
    }

    static String answer(Object one, String written) {
        String[] words = written.trim().split(" +");
        int[] args = new int[words.length - 1];
        for (int i = 0; i < args.length; i++) {
            args[i] = number(words[i + 1]);
        }
        return answer(one, words[0], args);
    }

    /** A boolean counts 1 or 0; an exception is told by its simple name, no answer by "null". */
    static String answer(Object one, String name, int... args) {
        Class<?>[] types = new Class<?>[args.length];
        Arrays.fill(types, int.class);
        try {
            Method method = one.getClass().getMethod(name, types);
            Object answer = method.invoke(one, Arrays.stream(args).boxed().toArray());
            if (answer instanceof Boolean yes) {
                return yes ? "1" : "0";
            }
            return String.valueOf(answer);
        } catch (InvocationTargetException e) {
            return e.getCause().getClass().getSimpleName();
        } catch (ReflectiveOperationException e) {
            throw new AssertionError(e);
        }
    }

    private static int number(String word) {
        return switch (word) {
            case "MIN" -> Integer.MIN_VALUE;
            case "MAX" -> Integer.MAX_VALUE;
            default -> Integer.parseInt(word);
        };
    }
}
