import java.lang.reflect.Array;
import java.lang.reflect.Field;

/** Promises 17 and 18: holds, refutes. */
public final class WorldTest {
    public static void main(String[] args) {
        arguments();
        signs();
        lines();
        nested();
        firstAndNow();
        refutes();
        refuted();
        Calls.end();
    }

    private static void arguments() {
        Calls.script("promise 17: arguments", """
            holds false 0 0 -> IAE
            holds false 4 0 -> IAE
            holds false -1 0 -> IAE
            holds false 1 -1 -> IAE
            holds false 1 16384 -> IAE
            holds false 3 16383 -> true
            holds false 1 16383 -> true
            holds true 0 0 -> IAE
            holds true 1 16384 -> IAE
            holds true 1 0 -> ISE
            start -> ok
            holds true 1 0 -> true
            holds true 4 0 -> IAE
            holds true 3 -1 -> IAE
            """);
    }

    private static void signs() {
        Calls.script("promise 17: signs without places", """
            spot 0 0 0 0 -> 0
            holds false 1 0 -> false
            holds false 1 1 -> true
            holds false 1 2 -> false
            spot 0 1 0 0 -> 1
            holds false 1 1 -> false
            holds false 1 2 -> false
            holds false 1 3 -> true
            holds false 3 16380 -> false
            """);
        Calls.script("promise 17: a sign with one place; things that there are not do not count", """
            line 0 -> 0
            spot 0 2 0 0 -> 0
            holds false 1 0 -> false
            holds false 1 4 -> true
            holds false 1 8 -> false
            holds false 2 8 -> true
            holds false 2 16 -> false
            holds false 3 16 -> true
            holds false 3 16355 -> false
            """);
        for (int x = 0; x < 3; x++) {
            for (int y = 0; y < 3; y++) {
                twoPlaces(x, y);
            }
        }
    }

    /** Sign 2 holds for thing x alone, and sign 3 for x and y alone: told apart by which place is asked about. */
    private static void twoPlaces(int x, int y) {
        int bits = 1 << 2 + x | 1 << 5 + 3 * x + y;
        Calls.script("promise 17: sign 3 for " + x + " and " + y, """
            line 0 -> 0
            line 0 -> 1
            spot 0 3 0 1 -> 0
            holds false 3 BITS -> true
            holds false 2 BITS -> TWO
            holds false 1 BITS -> ONE
            spot 0 2 0 0 -> 1
            holds false 3 BITS -> true
            spot 0 2 1 0 -> 2
            holds false 3 BITS -> SAME
            """.replace("BITS", Integer.toString(bits)).replace("SAME", Boolean.toString(x == y))
                .replace("TWO", Boolean.toString(x < 2 && y < 2)).replace("ONE", Boolean.toString(x + y == 0)));
    }

    private static void lines() {
        Calls.script("promise 17: the same thing at all hooks of a line", """
            line 0 -> 0
            spot 0 3 0 0 -> 0
            holds false 2 64 -> false
            holds false 2 256 -> false
            holds false 2 32 -> true
            holds false 2 512 -> true
            holds false 1 512 -> false
            spot 0 2 0 0 -> 1
            holds false 2 516 -> false
            holds false 2 520 -> true
            """);
        Calls.script("promise 17: a line that nothing is hooked to says that there is something", """
            line 0 -> 0
            holds false 1 0 -> true
            cut 0 -> 1
            line 1 -> 1
            holds false 1 0 -> false
            """);
        Calls.script("promise 17: six lines in a ring of two things, which three can not make", """
            line 0 -> 0
            line 0 -> 1
            line 0 -> 2
            line 0 -> 3
            line 0 -> 4
            line 0 -> 5
            spot 0 3 0 1 -> 0
            spot 0 3 1 2 -> 1
            spot 0 3 2 3 -> 2
            spot 0 3 3 4 -> 3
            spot 0 3 4 5 -> 4
            spot 0 3 5 0 -> 5
            holds false 2 320 -> true
            holds false 1 320 -> false
            holds false 3 4416 -> true
            spot 0 3 0 3 -> 6
            holds false 2 320 -> true
            spot 0 3 0 2 -> 7
            holds false 2 320 -> false
            """);
    }

    private static void nested() {
        Calls.script("promise 17: what is inside a cut does not hold, for the things outside of it", """
            line 0 -> 0
            cut 0 -> 1
            spot 1 2 0 0 -> 0
            holds false 1 4 -> false
            holds false 2 4 -> true
            holds false 2 12 -> false
            """);
        Calls.script("promise 17: for everything there is something", """
            cut 0 -> 1
            line 1 -> 0
            cut 1 -> 2
            line 2 -> 1
            spot 2 3 0 1 -> 0
            holds false 1 0 -> false
            holds false 1 32 -> true
            holds false 2 32 -> false
            holds false 2 288 -> true
            holds false 2 320 -> true
            holds false 2 96 -> false
            holds false 3 320 -> false
            holds false 3 8512 -> true
            """);
        Calls.script("promise 17: there is something for everything", """
            line 0 -> 0
            cut 0 -> 1
            line 1 -> 1
            cut 1 -> 2
            spot 2 3 0 1 -> 0
            holds false 2 288 -> false
            holds false 2 96 -> true
            holds false 2 768 -> true
            holds false 3 768 -> false
            holds false 3 1792 -> true
            """);
        Calls.script("promise 17: none of several cuts holds", """
            cut 0 -> 1
            cut 0 -> 2
            spot 1 0 0 0 -> 0
            spot 2 1 0 0 -> 1
            holds false 1 0 -> true
            holds false 1 1 -> false
            holds false 1 2 -> false
            cut 0 -> 3
            holds false 1 0 -> false
            """);
    }

    private static void firstAndNow() {
        Calls.script("promise 17: the first sheet, and this one", """
            spot 0 0 0 0 -> 0
            spot 0 1 0 0 -> 1
            holds false 1 1 -> false
            start -> ok
            holds true 1 1 -> false
            holds true 1 3 -> true
            erase 0 1 -> 1
            holds true 1 1 -> false
            holds false 1 1 -> true
            erase 0 0 -> 2
            holds true 1 0 -> false
            holds false 1 0 -> true
            back -> 1
            holds false 1 0 -> false
            holds false 1 1 -> true
            holds true 1 1 -> false
            """);
    }

    private static void refutes() {
        Calls.script("promise 18: arguments", """
            refutes 0 -> IAE
            refutes 3 -> IAE
            refutes -1 -> IAE
            refutes 1 -> ISE
            refutes 2 -> ISE
            start -> ok
            refutes 0 -> IAE
            refutes 3 -> IAE
            refutes 1 -> -1
            refutes 2 -> -1
            """);
        Calls.script("promise 18: a sheet that says less is not refuted by the first one", """
            line 0 -> 0
            spot 0 2 0 0 -> 0
            spot 0 3 0 0 -> 1
            start -> ok
            refutes 1 -> -1
            erase 0 1 -> 1
            refutes 1 -> -1
            refutes 2 -> -1
            sever 0 0 -> 1
            refutes 2 -> -1
            erase 0 0 -> 3
            refutes 2 -> -1
            """);
    }

    /**
     * No move leads to a sheet that does not follow from the first one, so that the worlds which refutes looks for
     * are only found when the first sheet is exchanged from outside.
     */
    private static void refuted() {
        refuted("empty", "sign 0", "start", "spot 0 0 0 0; start", "0 0");
        refuted("sign 0", "sign 1", "spot 0 0 0 0; start", "spot 0 1 0 0; start", "1 1");
        refuted("sign 1", "sign 0 and 1", "spot 0 1 0 0; start", "spot 0 1 0 0; spot 0 0 0 0; start", "2 2");
        refuted("something is so", "sign 0", "line 0; spot 0 2 0 0; start", "spot 0 0 0 0; start", "4 4");
        refuted("something is so", "all is so", "line 0; spot 0 2 0 0; start",
                "cut 0; line 1; cut 1; spot 2 2 0 0; start", "-1 4");
        refuted("all is so", "something is with itself", "cut 0; line 1; cut 1; spot 2 2 0 0; start",
                "line 0; spot 0 3 0 0; start", "4 12");
        refuted("something is with something", "something is with itself", "line 0; line 0; spot 0 3 0 1; start",
                "line 0; spot 0 3 0 0; start", "-1 64");
        refuted("all are with all", "nothing is with itself",
                "cut 0; line 1; line 1; cut 1; spot 2 3 0 1; start",
                "cut 0; line 1; spot 1 3 0 0; start", "32 864");
        refuted("all that there is", "an empty cut",
                "spot 0 0 0 0; spot 0 1 0 0; cut 0; line 1; line 1; cut 1; spot 2 2 0 0; spot 2 3 0 1; start",
                "cut 0; start", "39 879");
        refuted("sign 0 and 1", "sign 0", "spot 0 0 0 0; spot 0 1 0 0; start", "spot 0 0 0 0; start", "-1 -1");
    }

    private static void refuted(String first, String now, String firstCalls, String nowCalls, String want) {
        CutSheets x = drawn(nowCalls);
        x.wrap(2, 0);
        exchangeFirst(x, drawn(firstCalls));
        Calls.due("promise 18: first " + first + ", now " + now, "refutes 1, refutes 2",
                x.refutes(1) + " " + x.refutes(2), want);
    }

    private static CutSheets drawn(String calls) {
        CutSheets x = new CutSheets();
        for (String call : calls.split("; ")) {
            Calls.answer(x, call);
        }
        return x;
    }

    private static void exchangeFirst(CutSheets x, CutSheets other) {
        try {
            Field sheets = CutSheets.class.getDeclaredField("sheets");
            sheets.setAccessible(true);
            Array.set(sheets.get(x), 0, Array.get(sheets.get(other), 0));
        } catch (ReflectiveOperationException e) {
            throw new AssertionError(e);
        }
    }
}
