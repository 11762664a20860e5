import java.util.List;

/** The headings 'Promise 1' to 'Promise 19': a test for each sentence there that names a boundary case. */
public final class PromisesTest {
    public static void main(String[] args) {
        newObject();
        start();
        kinds();
        answers();
        join();
        back();
        depthAndRead();
        token();
        tokenAsReadThen();
        holds();
        holdsFirst();
        refutes();
        count();
        Calls.end();
    }

    private static void newObject() {
        Calls.script("promise 1: an empty sheet", """
            tokens 0 -> none
            depth 0 -> 0
            depth 1 -> IAE
            count 0 -> 0
            count 1 -> 0
            count 2 -> 0
            count 3 -> 0
            """);
        Calls.script("promise 1: that is drawn", """
            holds true 1 0 -> ISE
            refutes 1 -> ISE
            wrap 2 0 -> ISE
            back -> ISE
            cut 0 -> 1
            line 0 -> 0
            spot 0 2 0 0 -> 0
            start -> ok
            """);
        CutSheets one = new CutSheets();
        one.cut(0);
        CutSheets two = new CutSheets();
        Calls.due("promise 1: each object for itself", "count(0)", one.count(0) + " " + two.count(0), "1 0");
    }

    private static void start() {
        Calls.script("promise 5: drawing ends, of an empty sheet, too", """
            start -> ok
            cut 0 -> ISE
            line 0 -> ISE
            spot 0 0 0 0 -> ISE
            count 3 -> 0
            wrap 2 0 -> 1
            """);
        Calls.script("promise 5: this is the first sheet", """
            spot 0 0 0 0 -> 0
            start -> ok
            holds true 1 0 -> false
            holds true 1 1 -> true
            back -> ISE
            erase 0 0 -> 1
            holds true 1 0 -> false
            holds false 1 0 -> true
            """);
        Calls.script("promise 5: it has ended", """
            start -> ok
            start -> ISE
            wrap 2 0 -> 1
            start -> ISE
            back -> 0
            start -> ISE
            """);
    }

    private static void kinds() {
        String sheet = "cut 0 -> 1\nline 0 -> 0\nspot 0 0 0 0 -> 0\nspot 0 0 0 0 -> 1\nstart -> ok\n";
        Calls.each("promise 6: kind 0 a spot, 1 a cut, 2 a line", sheet, Draw.outside(-1, 3), """
            erase N 0 -> IAE
            erase N 1 -> IAE
            erase 2 0 -> 1
            erase 1 1 -> 2
            erase 0 1 -> 3
            tokens 0 -> 10
            """);
        Calls.each("promise 7: kind 0 a spot, 1 a cut", sheet, List.of("-1", "2", "3", Draw.MOST, Draw.LEAST), """
            copy N 0 0 -> IAE
            copy N 1 0 -> IAE
            copy 0 0 0 -> 2
            copy 1 1 0 -> 2
            tokens 0 -> 100 10 10 10 1 2 1 2
            """);
        Calls.each("promise 8: kind 0 a spot, 1 a cut", sheet, List.of("-1", "2", "3", Draw.MOST, Draw.LEAST), """
            uncopy N 0 -> IAE
            uncopy N 1 -> IAE
            uncopy 0 0 -> 1
            uncopy 1 1 -> ISE
            """);
        Calls.each("promise 9: kind 0 a spot, 1 a cut, 2 nothing", sheet, Draw.outside(-1, 3), """
            wrap N 0 -> IAE
            wrap N 1 -> IAE
            wrap 0 0 -> 2
            wrap 1 1 -> 4
            wrap 2 0 -> 6
            tokens 0 -> 100 10 1 1 10 2 2 1 1 1 2 2 2 1 1 2 2
            """);
        Calls.script("promise 9: of nothing the number is the area", """
            cut 0 -> 1
            start -> ok
            wrap 2 1 -> 2
            depth 2 -> 2
            wrap 2 0 -> 4
            depth 4 -> 1
            wrap 2 6 -> IAE
            """);
    }

    private static void answers() {
        Calls.script("promises 2 to 4, 7, 9, 12: the new one's number; 6, 8, 10, 11: how many moves there are", """
            cut 0 -> 1
            start -> ok
            line 1 -> 0
            line 1 -> 1
            spot 1 3 0 1 -> 0
            copy 0 0 1 -> 1
            cut 1 -> 2
            join 0 1 -> 6
            sever 1 2 -> 0
            uncopy 0 0 -> 8
            wrap 1 1 -> 3
            unwrap 3 -> 10
            erase 1 1 -> 11
            tokens 0 -> none
            count 3 -> 11
            """);
    }

    private static void join() {
        Calls.script("promise 11: IllegalArgumentException also if they are the same", """
            cut 0 -> 1
            line 1 -> 0
            line 1 -> 1
            join 0 0 -> IAE
            join 0 1 -> ISE
            start -> ok
            join 0 0 -> IAE
            join 1 1 -> IAE
            join 2 2 -> IAE
            join 0 1 -> 1
            join 0 1 -> IAE
            join 1 0 -> IAE
            """);
    }

    private static void back() {
        Calls.script("promise 13: there is none", """
            back -> ISE
            cut 0 -> 1
            back -> ISE
            start -> ok
            back -> ISE
            line 1 -> 0
            back -> 0
            back -> ISE
            count 0 -> 1
            """);
        Calls.script("promise 13: the latest move is taken back", """
            cut 0 -> 1
            start -> ok
            spot 1 0 0 0 -> 0
            spot 1 1 0 0 -> 1
            back -> 1
            tokens 0 -> 1 10 2
            line 1 -> 0
            cut 1 -> 2
            back -> 2
            tokens 0 -> 1 100 10 2
            back -> 1
            back -> 0
            tokens 0 -> 1 2
            """);
        Calls.script("promise 13: a refused call is no move", """
            cut 0 -> 1
            start -> ok
            line 1 -> 0
            line 0 -> ISE
            erase 2 0 -> ISE
            back -> 0
            back -> ISE
            """);
    }

    private static void depthAndRead() {
        Calls.each("promises 14, 15: there is no such area", "cut 0 -> 1\n", List.of("-1", "2", "13", Draw.MOST,
            Draw.LEAST), """
            read 0 -> 2
            depth N -> IAE
            read N -> IAE
            token 1 -> 2
            start -> ok
            depth N -> IAE
            read N -> IAE
            token 1 -> 2
            """);
        Calls.script("promise 15: the sheet, or an area", """
            cut 0 -> 1
            spot 1 0 0 0 -> 0
            read 0 -> 3
            read 1 -> 1
            """);
    }

    private static void token() {
        Calls.each("promise 16: there is none before anything is read", "spot 0 0 0 0 -> 0\n",
            List.of("0", "1", "-1", Draw.MOST, Draw.LEAST), "token N -> IOOBE\n");
        Calls.each("promise 16: there is none beside what was read", "spot 0 0 0 0 -> 0\nspot 0 1 0 0 -> 1\n",
            List.of("2", "3", "65", "66", "-1", Draw.MOST, Draw.LEAST), """
            read 0 -> 2
            token N -> IOOBE
            token 0 -> 10
            token 1 -> 11
            """);
        Calls.script("promise 16: there is none of what was read when it is empty, though more was read before", """
            cut 0 -> 1
            read 0 -> 2
            token 1 -> 2
            read 1 -> 0
            token 0 -> IOOBE
            token 1 -> IOOBE
            """);
    }

    private static void tokenAsReadThen() {
        String read = "spot 0 0 0 0 -> 0\nspot 0 0 0 0 -> 1\ncut 0 -> 1\ncut 1 -> 2\nline 1 -> 0\nline 1 -> 1\n"
            + "cut 0 -> 3\ncut 3 -> 4\nread 0 -> 12\n";
        String same = "token 0 -> 10\ntoken 1 -> 10\ntoken 2 -> 1\ntoken 3 -> 100\ntoken 11 -> 2\ntoken 12 -> IOOBE\n";
        Calls.each("promise 16: as it was read then, drawn", read, List.of("cut 0 -> 5", "line 0 -> 2",
            "spot 0 1 0 0 -> 2", "start -> ok", "depth 1 -> 1", "count 0 -> 4", "holds false 1 0 -> false"),
            "N\n" + same);
        Calls.each("promise 16: as it was read then, moved", read + "start -> ok\n", List.of("cut 1 -> 5",
            "line 1 -> 2", "spot 1 1 0 0 -> 2", "erase 0 0 -> 1", "erase 1 1 -> 1", "copy 0 0 0 -> 2",
            "copy 1 1 0 -> 5", "uncopy 0 1 -> 1", "uncopy 1 2 -> ISE", "uncopy 1 3 -> ISE", "wrap 0 0 -> 5",
            "unwrap 3 -> 1", "join 0 1 -> 1", "sever 0 2 -> 2", "refutes 2 -> -1"), "N\n" + same);
        Calls.script("promise 16: as it was read then, and the move before it was taken back", """
            spot 0 1 0 0 -> 0
            start -> ok
            wrap 0 0 -> 1
            read 2 -> 1
            back -> 0
            token 0 -> 11
            token 1 -> IOOBE
            """);
    }

    private static void holds() {
        Calls.each("promise 17: things is not 1 .. 3", "", Draw.outside(0, 4), """
            holds false N 0 -> IAE
            holds true N 0 -> IAE
            start -> ok
            holds false N 0 -> IAE
            holds true N 0 -> IAE
            """);
        Calls.each("promise 17: bits below 0 or 2^14 or more", "", Draw.outside(-1, 16384), """
            holds false 1 N -> IAE
            holds false 3 N -> IAE
            holds true 3 N -> IAE
            start -> ok
            holds true 3 N -> IAE
            """);
        Calls.each("promise 17: the least and the greatest", "spot 0 0 0 0 -> 0\n", List.of("1", "2", "3"), """
            holds false N 0 -> false
            holds false N 16383 -> true
            """);
        Calls.script("promise 17: bits of things that there are not do not count", """
            line 0 -> 0
            line 0 -> 1
            cut 0 -> 1
            spot 0 2 0 0 -> 0
            spot 0 3 0 1 -> 1
            spot 1 3 1 0 -> 2
            holds false 1 16382 -> false
            holds false 1 16344 -> false
            holds false 2 16144 -> false
            holds false 2 76 -> true
            holds false 2 15452 -> true
            holds false 1 76 -> false
            holds false 3 76 -> true
            """);
    }

    private static void holdsFirst() {
        Calls.script("promise 17: the first one is asked for and drawing has not ended", """
            spot 0 0 0 0 -> 0
            holds true 1 1 -> ISE
            holds true 3 16383 -> ISE
            holds false 1 1 -> true
            start -> ok
            holds true 1 1 -> true
            holds true 3 16383 -> true
            """);
        Calls.script("promise 17: whether the sheet, or the first one: after 20 moves and when they are taken back",
            "spot 0 0 0 0 -> 0\nstart -> ok\n" + Draw.moves(18, 1) + """
            wrap 2 0 -> 1
            erase 0 0 -> 20
            holds true 1 0 -> false
            holds false 1 0 -> true
            back -> 19
            holds true 1 0 -> false
            holds false 1 0 -> false
            holds false 1 1 -> true
            """);
    }

    private static void refutes() {
        Calls.each("promise 18: things is not 1 or 2", "", Draw.outside(0, 3), """
            refutes N -> IAE
            start -> ok
            refutes N -> IAE
            """);
        Calls.each("promise 18: drawing has not ended", "", List.of("1", "2"), """
            refutes N -> ISE
            spot 0 0 0 0 -> 0
            refutes N -> ISE
            start -> ok
            refutes N -> -1
            erase 0 0 -> 1
            refutes N -> -1
            back -> 0
            refutes N -> -1
            """);
        Calls.script("promise 18: -1 when there is none, on a full sheet", Draw.chain(12) + Draw.linesFrom(0, 6)
            + Draw.spots(12, 5).replaceAll("5 0 0 0", "5 3 0 5") + """
            start -> ok
            refutes 1 -> -1
            refutes 2 -> -1
            erase 1 7 -> 1
            join 3 0 -> 2
            sever 0 4 -> 3
            refutes 1 -> -1
            refutes 2 -> -1
            """);
    }

    private static void count() {
        Calls.each("promise 19: any other number", "", Draw.outside(-1, 4), """
            count N -> IAE
            start -> ok
            count N -> IAE
            """);
        Calls.script("promise 19: of all that a sheet can have, and 20 moves",
            Draw.row(10) + Draw.lines(6, 0) + Draw.spots(12, 0) + "start -> ok\n" + Draw.moves(18, 11) + """
            wrap 2 0 -> 11
            wrap 0 0 -> UOE
            erase 0 0 -> 20
            count 0 -> 12
            count 1 -> 11
            count 2 -> 6
            count 3 -> 20
            back -> 19
            count 1 -> 12
            """);
    }
}
