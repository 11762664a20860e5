import java.lang.reflect.InvocationTargetException;
import java.lang.reflect.Method;
import java.util.ArrayList;
import java.util.HashMap;
import java.util.List;
import java.util.Map;

/**
 * Runs calls that are written as text, on CutSheets or on the Model.
 *
 * A script has a call a line, "cut 0 -> 1"; an answer is a number, true, false, ok (of start), or an exception:
 * IAE, ISE, UOE, IOOBE. "tokens 2 -> 100 12 100" reads area 2 and asks for every token and one too many
 * ("tokens 2 -> none" where there is nothing to read). Each refused call is looked at once more: an object on which
 * it was made must show the same as one on which it was not.
 */
final class Calls {
    /** The document promises nothing of an object after so many calls. */
    static final int MOST = 512;
    private static final int MOST_TOKENS = 66;
    private static final Map<String, Method> METHODS = new HashMap<>();

    private static int wrong = 0;

    private Calls() {
    }

    static void script(String name, String text) {
        CutSheets x = new CutSheets();
        List<String> done = new ArrayList<>();
        int number = 0;
        int used = 0;
        for (String line : text.split("\n")) {
            if (line.isBlank()) {
                continue;
            }
            number++;
            String[] parts = line.split("->");
            String call = parts[0].trim();
            String want = parts[1].trim();
            String got = answer(x, call);
            String where = name + ", call " + number;
            due(where, call, got, want);
            used += cost(call, got);
            if (isRefusal(want)) {
                unchanged(where, done, call);
            } else {
                done.add(call.replace("tokens", "read"));
            }
        }
        due(name, "calls on one object", used <= MOST ? "few enough" : "too many", "few enough");
    }

    /** The same calls once for each value, which stands in them where "N" does. */
    static void each(String name, String before, List<String> values, String calls) {
        for (String value : values) {
            script(name + ": " + value, before + calls.replaceAll("\\bN\\b", value));
        }
    }

    static void due(String name, String call, String got, String want) {
        if (!got.equals(want)) {
            wrong++;
            System.out.println(name + ": " + call + " answered " + got + ", due is " + want);
        }
    }

    static void end() {
        System.exit(wrong == 0 ? 0 : 1);
    }

    static boolean isRefusal(String answer) {
        return answer.matches("[A-Z]+");
    }

    /** How many calls of the face were made for one of a script. */
    static int cost(String call, String answer) {
        if (!call.startsWith("tokens") || isRefusal(answer)) {
            return 1;
        }
        return answer.equals("none") ? 2 : 2 + answer.split(" ").length;
    }

    static String answer(Object x, String call) {
        String[] words = call.split(" +");
        return words[0].equals("tokens") ? tokens(x, words[1]) : oneAnswer(x, words);
    }

    private static void unchanged(String where, List<String> done, String refused) {
        CutSheets with = new CutSheets();
        CutSheets without = new CutSheets();
        for (String call : done) {
            answer(with, call);
            answer(without, call);
        }
        answer(with, refused);
        due(where, "what there is after " + refused, shown(with), shown(without));
    }

    /** All that calls can tell of an object, the sheet before its latest move, too; so that move is taken back. */
    private static String shown(CutSheets x) {
        StringBuilder all = new StringBuilder("was read:");
        for (int i = 0; i <= MOST_TOKENS && !isRefusal(answer(x, "token " + i)); i++) {
            all.append(' ').append(answer(x, "token " + i));
        }
        all.append(", counts:");
        for (int which = 0; which < 4; which++) {
            all.append(' ').append(answer(x, "count " + which));
        }
        all.append(", depths:");
        for (int area = 0; area <= 12; area++) {
            all.append(' ').append(answer(x, "depth " + area));
        }
        all.append(", first: ").append(answer(x, "holds true 1 0")).append(' ').append(answer(x, "holds true 3 16383"));
        all.append(", sheet: ").append(answer(x, "tokens 0"));
        all.append(", back: ").append(answer(x, "back")).append(", sheet: ").append(answer(x, "tokens 0"));
        return all.toString();
    }

    private static String tokens(Object x, String area) {
        String size = oneAnswer(x, new String[] {"read", area});
        if (isRefusal(size)) {
            return size;
        }
        StringBuilder all = new StringBuilder();
        for (int i = 0; i < Integer.parseInt(size); i++) {
            all.append(i == 0 ? "" : " ").append(oneAnswer(x, new String[] {"token", Integer.toString(i)}));
        }
        if (all.length() == 0) {
            all.append("none");
        }
        String behind = oneAnswer(x, new String[] {"token", size});
        return behind.equals("IOOBE") ? all.toString() : all + " and behind it " + behind;
    }

    private static String oneAnswer(Object x, String[] words) {
        Method method = METHODS.computeIfAbsent(x.getClass().getName() + " " + words[0], key -> method(x, words[0]));
        Class<?>[] types = method.getParameterTypes();
        Object[] args = new Object[types.length];
        if (words.length != types.length + 1) {
            throw new AssertionError(words[0] + " takes " + types.length + " arguments");
        }
        for (int i = 0; i < types.length; i++) {
            if (types[i] == boolean.class) {
                args[i] = Boolean.valueOf(words[i + 1]);
            } else {
                args[i] = Integer.valueOf(words[i + 1]);
            }
        }
        try {
            Object result = method.invoke(x, args);
            return result == null ? "ok" : result.toString();
        } catch (InvocationTargetException e) {
            return e.getCause().getClass().getSimpleName().replaceAll("[a-z]", "");
        } catch (IllegalAccessException e) {
            throw new AssertionError(e);
        }
    }

    private static Method method(Object x, String name) {
        for (Method method : x.getClass().getDeclaredMethods()) {
            if (method.getName().equals(name)) {
                method.setAccessible(true);
                return method;
            }
        }
        throw new AssertionError("no method " + name);
    }
}
