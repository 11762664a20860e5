import java.util.List;

/**
 * The paragraph 'What is thrown': which exception comes where several fit, that a place which a sign does not have is
 * not looked at, and when numbers or moves are too few. That nothing is changed then is what Calls.script looks at
 * for each call that a script has refused.
 */
public final class ThrownTest {
    /** Calls that can be made on the sheet of MOVABLE, with their answers when there are 19 moves, cuts 7 and 8 new. */
    private static final List<String> MOVES = List.of("cut 1 -> 9", "line 1 -> 4", "spot 1 3 0 1 -> 3",
        "erase 0 0 -> 20", "erase 1 3 -> 20", "erase 2 2 -> 20", "copy 0 0 0 -> 3", "copy 1 5 0 -> 9",
        "uncopy 0 0 -> 20", "uncopy 1 5 -> 20", "wrap 0 0 -> 9", "wrap 1 1 -> 9", "wrap 2 0 -> 9", "unwrap 3 -> 20",
        "join 0 1 -> 20", "sever 2 2 -> 4");
    private static final String MOVABLE = """
        cut 0 -> 1
        cut 1 -> 2
        cut 0 -> 3
        cut 3 -> 4
        cut 0 -> 5
        cut 0 -> 6
        line 1 -> 0
        line 1 -> 1
        line 0 -> 2
        line 2 -> 3
        spot 0 0 0 0 -> 0
        spot 0 0 0 0 -> 1
        spot 1 0 0 0 -> 2
        """;

    public static void main(String[] args) {
        stateAfterArgumentWhenDrawn();
        stateAfterArgument();
        roomAfterArgument();
        roomAfterState();
        places();
        twentyMoves();
        fullOfSpots();
        fullOfLines();
        fullOfCuts();
        tooFewForAll();
        Calls.end();
    }

    private static void stateAfterArgumentWhenDrawn() {
        Calls.script("the first that fits: an argument before that drawing has not ended", MOVABLE + """
            erase 0 9 -> IAE
            erase 3 0 -> IAE
            copy 0 9 0 -> IAE
            copy 0 0 9 -> IAE
            copy 2 0 0 -> IAE
            uncopy 0 9 -> IAE
            uncopy 2 0 -> IAE
            wrap 0 9 -> IAE
            wrap 3 0 -> IAE
            unwrap 9 -> IAE
            join 5 0 -> IAE
            join 0 0 -> IAE
            sever 5 0 -> IAE
            sever 2 9 -> IAE
            holds true 0 0 -> IAE
            holds true 1 16384 -> IAE
            refutes 3 -> IAE
            """);
        for (String move : MOVES.subList(3, MOVES.size())) {
            Calls.script("not now: drawing has not ended", MOVABLE + move.replaceAll("->.*", "-> ISE"));
        }
    }

    private static void stateAfterArgument() {
        Calls.script("the first that fits: an argument before that it can not be done there", MOVABLE + """
            start -> ok
            spot 0 4 0 0 -> IAE
            spot 0 2 0 0 -> IAE
            spot 0 3 2 0 -> IAE
            spot 0 2 9 0 -> IAE
            spot 2 3 0 5 -> IAE
            spot 2 3 0 3 -> ISE
            copy 2 0 1 -> IAE
            copy 0 2 0 -> ISE
            copy 0 2 9 -> IAE
            join 2 2 -> IAE
            join 2 0 -> ISE
            join 2 4 -> IAE
            sever 4 1 -> IAE
            sever 2 1 -> ISE
            sever 2 7 -> IAE
            """);
    }

    private static void roomAfterArgument() {
        Calls.script("the first that fits: an argument before that there were 20 moves", MOVABLE + "start -> ok\n"
            + Draw.moves(20, 7) + """
            cut 9 -> IAE
            line 9 -> IAE
            spot 9 0 0 0 -> IAE
            spot 1 4 0 0 -> IAE
            spot 1 2 3 0 -> IAE
            erase 0 9 -> IAE
            erase 3 0 -> IAE
            copy 0 9 0 -> IAE
            copy 0 0 9 -> IAE
            uncopy 0 9 -> IAE
            wrap 0 9 -> IAE
            wrap 2 9 -> IAE
            unwrap 9 -> IAE
            join 0 0 -> IAE
            join 0 5 -> IAE
            sever 5 0 -> IAE
            sever 2 9 -> IAE
            """);
        Calls.script("the first that fits: an argument before that there are too few numbers",
            Draw.row(12) + Draw.lines(6, 0) + Draw.spots(12, 0) + """
            cut 13 -> IAE
            line 13 -> IAE
            spot 13 0 0 0 -> IAE
            spot 0 4 0 0 -> IAE
            spot 0 2 6 0 -> IAE
            start -> ok
            copy 0 12 0 -> IAE
            copy 1 13 0 -> IAE
            copy 1 1 13 -> IAE
            wrap 2 13 -> IAE
            wrap 0 12 -> IAE
            sever 6 0 -> IAE
            sever 0 13 -> IAE
            """);
    }

    private static void roomAfterState() {
        Calls.script("the first that fits: that it can not be done there before that there were 20 moves",
            MOVABLE + "line 0 -> 4\nspot 0 2 4 0 -> 3\nstart -> ok\n" + Draw.moves(20, 7) + """
            cut 0 -> ISE
            line 0 -> ISE
            spot 0 0 0 0 -> ISE
            erase 0 2 -> ISE
            erase 1 2 -> ISE
            erase 2 0 -> ISE
            erase 2 4 -> ISE
            copy 0 2 0 -> ISE
            copy 1 1 1 -> ISE
            uncopy 0 3 -> ISE
            uncopy 1 1 -> ISE
            unwrap 1 -> ISE
            join 2 0 -> ISE
            sever 2 1 -> ISE
            start -> ISE
            """);
        Calls.script("the first that fits: that it can not be done there before that there are too few numbers",
            Draw.row(12) + Draw.lines(6, 1) + Draw.spots(12, 1) + """
            copy 0 0 1 -> ISE
            copy 1 1 0 -> ISE
            wrap 2 0 -> ISE
            sever 0 1 -> ISE
            start -> ok
            cut 0 -> ISE
            line 0 -> ISE
            spot 0 0 0 0 -> ISE
            copy 0 0 0 -> ISE
            copy 0 0 2 -> ISE
            copy 1 1 1 -> ISE
            sever 0 1 -> ISE
            sever 0 0 -> ISE
            """);
    }

    private static void places() {
        Calls.each("a line is not hooked so: it is not there, or not one of an area around it", """
            cut 0 -> 1
            cut 0 -> 2
            line 1 -> 0
            line 2 -> 1
            """, List.of("1", "2", "5", "6", "-1"), """
            spot 1 2 N 0 -> IAE
            spot 1 3 0 N -> IAE
            spot 1 3 N 0 -> IAE
            spot 1 0 N N -> 0
            spot 1 2 0 N -> 1
            """);
        Calls.each("a place that the sign does not have: as a move, too", """
            cut 0 -> 1
            line 1 -> 0
            start -> ok
            """, List.of("1", "5", "6", "-1", Draw.MOST, Draw.LEAST), """
            spot 1 2 N 0 -> IAE
            spot 1 3 0 N -> IAE
            spot 1 0 N N -> 0
            spot 1 1 N N -> 1
            spot 1 2 0 N -> 2
            """);
    }

    private static void twentyMoves() {
        for (String move : MOVES) {
            String refused = move.replaceAll("->.*", "-> UOE\n");
            Calls.script("there were 20 moves: " + move, MOVABLE + "start -> ok\n" + Draw.moves(20, 7) + refused
                + "count 3 -> 20\nback -> 19\n" + move + "\ncount 3 -> 20\nwrap 2 0 -> UOE\n");
        }
    }

    private static void fullOfSpots() {
        Calls.script("too few numbers: spots, drawn and moved", "cut 0 -> 1\n" + Draw.spots(11, 1) + """
            spot 0 1 0 0 -> 11
            spot 0 0 0 0 -> UOE
            spot 1 0 0 0 -> UOE
            start -> ok
            spot 1 0 0 0 -> UOE
            copy 0 11 0 -> UOE
            copy 0 11 1 -> UOE
            copy 1 1 0 -> UOE
            wrap 0 11 -> 2
            cut 1 -> 4
            line 1 -> 0
            copy 1 4 1 -> 5
            sever 0 4 -> 1
            """);
    }

    private static void fullOfLines() {
        Calls.script("too few numbers: lines, drawn and moved", "cut 0 -> 1\ncut 1 -> 2\n" + Draw.lines(5, 1) + """
            line 2 -> 5
            line 0 -> UOE
            line 1 -> UOE
            start -> ok
            line 1 -> UOE
            sever 0 2 -> UOE
            copy 1 1 0 -> UOE
            copy 1 2 1 -> UOE
            cut 1 -> 3
            spot 1 2 0 0 -> 0
            copy 0 0 2 -> 1
            copy 1 3 1 -> 4
            wrap 1 2 -> 5
            """);
    }

    private static void fullOfCuts() {
        Calls.script("too few numbers: cuts, drawn and moved", Draw.row(12) + """
            cut 0 -> UOE
            cut 12 -> UOE
            line 0 -> 0
            spot 0 2 0 0 -> 0
            start -> ok
            cut 12 -> UOE
            copy 1 12 0 -> UOE
            wrap 2 0 -> UOE
            wrap 0 0 -> UOE
            wrap 1 1 -> UOE
            line 12 -> 1
            spot 12 2 0 0 -> 1
            copy 0 0 12 -> 2
            sever 0 0 -> 2
            """);
        Calls.script("too few numbers: one cut that is free is too few for two", Draw.row(11) + """
            spot 0 0 0 0 -> 0
            start -> ok
            wrap 2 0 -> UOE
            wrap 0 0 -> UOE
            wrap 1 11 -> UOE
            copy 1 11 0 -> 12
            back -> 0
            erase 1 11 -> 1
            wrap 0 0 -> 11
            depth 12 -> 2
            """);
    }

    private static void tooFewForAll() {
        String part = "cut 0 -> 1\ncut 1 -> 2\nline 1 -> 0\nline 2 -> 1\nspot 1 2 0 0 -> 0\nspot 2 2 1 0 -> 1\n";
        String made = "start -> ok\ncopy 1 1 0 -> ";
        Calls.script("too few numbers for all that is new: just enough of each",
            part + rest("cut 0", 3, 10) + rest("line 0", 2, 3) + rest("spot 0 0 0 0", 2, 9) + made + """
            11
            count 0 -> 12
            count 1 -> 12
            count 2 -> 6
            tokens 11 -> 104 12 104 1 105 12 105 2
            """);
        Calls.script("too few numbers for all that is new: a cut", part + rest("cut 0", 3, 11) + made + "UOE\n");
        Calls.script("too few numbers for all that is new: a line", part + rest("line 0", 2, 4) + made + "UOE\n");
        Calls.script("too few numbers for all that is new: a spot",
            part + rest("spot 0 0 0 0", 2, 10) + made + "UOE\n");
    }

    private static String rest(String call, int from, int to) {
        StringBuilder all = new StringBuilder();
        for (int number = from; number <= to; number++) {
            all.append(call).append(" -> ").append(number).append('\n');
        }
        return all.toString();
    }
}
