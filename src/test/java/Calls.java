import java.lang.reflect.InvocationTargetException;
import java.lang.reflect.Method;

/**
 * Runs calls that are written as text, on CutSheets or on the Model.
 *
 * A script has a call a line, "cut 0 -> 1"; an answer is a number, true, false, ok (of start), or an exception:
 * IAE, ISE, UOE, IOOBE. "tokens 2 -> 100 12 100" reads area 2 and asks for every token and one too many
 * ("tokens 2 -> none" where there is nothing to read).
 */
final class Calls {
    private static int wrong = 0;

    private Calls() {
    }

    static void script(String name, String text) {
        CutSheets x = new CutSheets();
        int number = 0;
        for (String line : text.split("\n")) {
            if (line.isBlank()) {
                continue;
            }
            number++;
            String[] parts = line.split("->");
            due(name + ", call " + number, parts[0].trim(), answer(x, parts[0].trim()), parts[1].trim());
        }
    }

    static void due(String name, String call, String got, String want) {
        if (!got.equals(want)) {
            wrong++;
            System.out.println(name + ": " + call + " answered " + got + ", due is " + want);
        }
    }

    static void end() {
        System.exit(wrong == 0 ? 0 : 1);
    }

    static String answer(Object x, String call) {
        String[] words = call.split(" +");
        return words[0].equals("tokens") ? tokens(x, words[1]) : oneAnswer(x, words);
    }

    private static String tokens(Object x, String area) {
        String size = oneAnswer(x, new String[] {"read", area});
        if (size.equals("IAE")) {
            return size;
        }
        StringBuilder all = new StringBuilder();
        for (int i = 0; i < Integer.parseInt(size); i++) {
            all.append(i == 0 ? "" : " ").append(oneAnswer(x, new String[] {"token", Integer.toString(i)}));
        }
        if (all.length() == 0) {
            all.append("none");
        }
        String behind = oneAnswer(x, new String[] {"token", size});
        return behind.equals("IOOBE") ? all.toString() : all + " and behind it " + behind;
    }

    private static String oneAnswer(Object x, String[] words) {
        Method method = method(x, words[0]);
        Class<?>[] types = method.getParameterTypes();
        Object[] args = new Object[types.length];
        for (int i = 0; i < types.length; i++) {
            if (types[i] == boolean.class) {
                args[i] = Boolean.valueOf(words[i + 1]);
            } else {
                args[i] = Integer.valueOf(words[i + 1]);
            }
        }
        try {
            Object result = method.invoke(x, args);
            return result == null ? "ok" : result.toString();
        } catch (InvocationTargetException e) {
            return e.getCause().getClass().getSimpleName().replaceAll("[a-z]", "");
        } catch (IllegalAccessException e) {
            throw new AssertionError(e);
        }
    }

    private static Method method(Object x, String name) {
        for (Method method : x.getClass().getDeclaredMethods()) {
            if (method.getName().equals(name)) {
                method.setAccessible(true);
                return method;
            }
        }
        throw new AssertionError("no method " + name);
    }
}
