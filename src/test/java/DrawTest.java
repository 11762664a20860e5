/** Promises 1 to 5: a new object, cut, line, spot, start. */
public final class DrawTest {
    public static void main(String[] args) {
        newObject();
        cuts();
        lines();
        spots();
        moves();
        limits();
        start();
        Calls.end();
    }

    private static void newObject() {
        Calls.script("promise 1: empty", """
            count 0 -> 0
            count 1 -> 0
            count 2 -> 0
            count 3 -> 0
            token 0 -> IOOBE
            token -1 -> IOOBE
            read 0 -> 0
            token 0 -> IOOBE
            depth 0 -> 0
            depth 1 -> IAE
            holds false 1 0 -> true
            back -> ISE
            """);
        Calls.script("promise 1: it is drawn", """
            holds true 1 0 -> ISE
            refutes 1 -> ISE
            wrap 2 0 -> ISE
            cut 0 -> 1
            count 3 -> 0
            """);
    }

    private static void cuts() {
        Calls.script("promise 2: cuts in areas of any depth while it is drawn", """
            cut 0 -> 1
            cut 1 -> 2
            cut 2 -> 3
            cut 0 -> 4
            tokens 0 -> 1 1 1 2 2 2 1 2
            cut 5 -> IAE
            cut 13 -> IAE
            cut -1 -> IAE
            cut 2147483647 -> IAE
            cut -2147483648 -> IAE
            count 0 -> 4
            """);
    }

    private static void lines() {
        Calls.script("promise 3: lines", """
            cut 0 -> 1
            line 1 -> 0
            line 0 -> 1
            line 1 -> 2
            tokens 0 -> 101 1 100 102 2
            tokens 1 -> 100 102
            line 2 -> IAE
            line -1 -> IAE
            count 2 -> 3
            """);
    }

    private static void spots() {
        Calls.script("promise 4: signs and places", """
            line 0 -> 0
            spot 0 0 -5 99 -> 0
            spot 0 1 99 -5 -> 1
            spot 0 2 0 99 -> 2
            spot 0 3 0 0 -> 3
            spot 0 4 0 0 -> IAE
            spot 0 -1 0 0 -> IAE
            spot 1 0 0 0 -> IAE
            spot -1 0 0 0 -> IAE
            tokens 0 -> 100 10 11 12 100 13 100 100
            count 1 -> 4
            """);
        Calls.script("promise 4: a line reaches its outer area and those in it", """
            cut 0 -> 1
            cut 1 -> 2
            cut 0 -> 3
            line 1 -> 0
            line 0 -> 1
            spot 1 2 0 0 -> 0
            spot 2 2 0 0 -> 1
            spot 0 2 0 0 -> IAE
            spot 3 2 0 0 -> IAE
            spot 3 2 1 0 -> 2
            spot 2 3 0 1 -> 3
            spot 2 3 1 0 -> 4
            spot 3 3 1 0 -> IAE
            spot 3 3 0 1 -> IAE
            spot 2 3 2 0 -> IAE
            spot 2 3 0 2 -> IAE
            spot 2 2 6 0 -> IAE
            spot 2 2 -1 0 -> IAE
            tokens 0 -> 101 1 100 12 100 1 12 100 13 100 101 13 101 100 2 2 1 12 101 2
            """);
    }

    private static void moves() {
        Calls.script("promises 2 to 4: after start they are moves, in areas of odd depth alone", """
            cut 0 -> 1
            cut 1 -> 2
            start -> ok
            cut 0 -> ISE
            line 0 -> ISE
            spot 0 0 0 0 -> ISE
            cut 2 -> ISE
            line 2 -> ISE
            spot 2 0 0 0 -> ISE
            count 3 -> 0
            line 1 -> 0
            cut 1 -> 3
            spot 1 2 0 0 -> 0
            count 3 -> 3
            tokens 0 -> 1 100 12 100 1 2 1 2 2
            cut 9 -> IAE
            line 9 -> IAE
            spot 9 0 0 0 -> IAE
            spot 0 4 0 0 -> IAE
            spot 0 2 0 0 -> IAE
            spot 2 2 1 0 -> IAE
            cut 3 -> ISE
            refutes 2 -> -1
            back -> 2
            back -> 1
            tokens 0 -> 1 100 1 2 2
            back -> 0
            tokens 0 -> 1 1 2 2
            """);
    }

    private static void limits() {
        StringBuilder full = new StringBuilder();
        for (int cut = 1; cut <= 12; cut++) {
            full.append("cut ").append(cut - 1).append(" -> ").append(cut).append('\n');
        }
        for (int line = 0; line < 6; line++) {
            full.append("line ").append(line).append(" -> ").append(line).append('\n');
        }
        for (int spot = 0; spot < 12; spot++) {
            full.append("spot ").append(spot + 1).append(" 3 0 ").append(Math.min(spot + 1, 5));
            full.append(" -> ").append(spot).append('\n');
        }
        Calls.script("promises 2 to 4: no number is free", full + """
            cut 0 -> UOE
            line 0 -> UOE
            spot 0 0 0 0 -> UOE
            cut 13 -> IAE
            line 13 -> IAE
            spot 0 2 1 0 -> IAE
            read 0 -> 66
            token 65 -> 2
            token 66 -> IOOBE
            depth 12 -> 12
            holds false 3 16383 -> true
            holds false 3 0 -> true
            start -> ok
            cut 0 -> ISE
            line 12 -> ISE
            spot 0 0 0 0 -> ISE
            cut 1 -> UOE
            line 1 -> UOE
            spot 1 0 0 0 -> UOE
            copy 0 0 1 -> UOE
            copy 1 1 0 -> UOE
            sever 0 0 -> UOE
            wrap 2 0 -> UOE
            refutes 2 -> -1
            erase 1 1 -> 1
            read 0 -> 1
            back -> 0
            read 0 -> 66
            """);
    }

    private static void start() {
        Calls.script("promise 5: start ends the drawing, once", """
            spot 0 0 0 0 -> 0
            count 3 -> 0
            start -> ok
            count 3 -> 0
            start -> ISE
            spot 0 0 0 0 -> ISE
            erase 0 0 -> 1
            start -> ISE
            back -> 0
            start -> ISE
            back -> ISE
            """);
        Calls.script("promise 5: an empty sheet can be started with", """
            start -> ok
            holds true 1 0 -> true
            wrap 2 0 -> 1
            spot 1 1 0 0 -> 0
            refutes 2 -> -1
            """);
    }
}
