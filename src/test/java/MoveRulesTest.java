import java.util.List;

/** The document's table of moves: a test for each rule that names where a move can be made and where not. */
public final class MoveRulesTest {
    public static void main(String[] args) {
        insertDepths();
        eraseDepths();
        eraseCut();
        eraseSpotAndLine();
        copyWhere();
        copyLines();
        copyOrder();
        uncopyWhere();
        uncopyWhat();
        wrapWhat();
        wrapDepths();
        unwrapWhich();
        unwrapWhat();
        joinWhich();
        joinWhat();
        severWhich();
        severWhat();
        Calls.end();
    }

    private static void insertDepths() {
        insertDepths("cut N", "12");
        insertDepths("line N", "1");
        insertDepths("spot N 0 7 7", "1");
        insertDepths("spot N 2 0 7", "1");
    }

    /** Cuts 1 to 11, each in the one before it, so that cut 12 can be made at any depth; a line and a spot. */
    private static void insertDepths(String call, String made) {
        for (int depth = 0; depth <= 11; depth++) {
            boolean odd = depth % 2 == 1;
            String at = call.replace("N", Integer.toString(depth)) + " -> ";
            Calls.script("cut, spot, line: only in areas of odd depth, " + call,
                Draw.chain(11) + "line 0 -> 0\nspot 0 0 0 0 -> 0\nstart -> ok\n" + at + (odd ? made : "ISE")
                + "\ncount 3 -> " + (odd ? 1 : 0) + "\n");
        }
        Calls.script("cut, spot, line: not at the depth 12, " + call, Draw.chain(12)
            + "line 0 -> 0\nspot 0 0 0 0 -> 0\nstart -> ok\n" + call.replace("N", "12") + " -> ISE\n");
    }

    private static void eraseDepths() {
        for (int depth = 0; depth <= 12; depth++) {
            String due = depth % 2 == 0 ? " -> 1" : " -> ISE";
            String sheet = Draw.chain(12) + "spot " + depth + " 0 0 0 -> 0\nline " + depth + " -> 0\nstart -> ok\n";
            Calls.script("erase: only what lies in areas of even depth, a spot", sheet + "erase 0 0" + due);
            Calls.script("erase: only what lies in areas of even depth, a line", sheet + "erase 2 0" + due);
            if (depth < 12) {
                Calls.script("erase: only what lies in areas of even depth, a cut",
                    sheet + "erase 1 " + (depth + 1) + due);
            }
        }
    }

    private static void eraseCut() {
        Calls.script("erase: a cut goes with all that is in it, and its inner lines", """
            line 0 -> 0
            cut 0 -> 1
            cut 0 -> 2
            cut 0 -> 3
            cut 2 -> 4
            cut 4 -> 5
            line 2 -> 1
            line 5 -> 2
            line 3 -> 3
            spot 1 0 0 0 -> 0
            spot 2 3 0 1 -> 1
            spot 3 2 3 0 -> 2
            spot 5 3 2 1 -> 3
            spot 0 2 0 0 -> 4
            start -> ok
            erase 1 2 -> 1
            tokens 0 -> 100 12 100 1 10 2 1 103 12 103 2
            depth 2 -> IAE
            depth 4 -> IAE
            depth 5 -> IAE
            erase 2 1 -> IAE
            erase 2 2 -> IAE
            erase 0 1 -> IAE
            erase 0 3 -> IAE
            count 0 -> 2
            count 1 -> 3
            count 2 -> 2
            """);
        Calls.script("erase: an empty cut", "cut 0 -> 1\nstart -> ok\nerase 1 1 -> 1\ntokens 0 -> none\n");
        Calls.script("erase: a cut with one of a lesser number in it", """
            cut 0 -> 1
            spot 1 0 0 0 -> 0
            start -> ok
            wrap 1 1 -> 2
            erase 1 2 -> 2
            count 0 -> 0
            count 1 -> 0
            """);
    }

    private static void eraseSpotAndLine() {
        Calls.script("erase: a spot alone, the lines that are hooked stay", """
            line 0 -> 0
            line 0 -> 1
            spot 0 3 0 1 -> 0
            spot 0 3 0 1 -> 1
            start -> ok
            erase 0 0 -> 1
            tokens 0 -> 100 101 13 100 101
            erase 0 1 -> 2
            tokens 0 -> 100 101
            """);
        Calls.each("erase: a line if nothing is hooked to it", Draw.chain(2) + Draw.lines(2, 0),
            List.of("spot 0 2 0 9", "spot 0 3 0 1", "spot 0 3 1 0", "spot 2 2 0 9", "spot 2 3 1 0"), """
            N -> 0
            start -> ok
            erase 2 0 -> ISE
            """);
        Calls.script("erase: a line if nothing is hooked to it any more", """
            cut 0 -> 1
            cut 1 -> 2
            line 0 -> 0
            spot 2 3 0 0 -> 0
            start -> ok
            erase 2 0 -> ISE
            erase 0 0 -> 1
            erase 2 0 -> 2
            back -> 1
            back -> 0
            erase 2 0 -> ISE
            """);
    }

    private static void copyWhere() {
        String name = "copy: into the area in which it lies, or one in that, ";
        String spot = Draw.chain(11) + "cut 2 -> 12\nspot 3 0 0 0 -> 0\nstart -> ok\n";
        Calls.each(name + "a spot", spot, List.of("3", "4", "5", "11"), "copy 0 0 N -> 1\n");
        Calls.each(name + "a spot not elsewhere", spot, List.of("0", "1", "2", "12"), "copy 0 0 N -> ISE\n");
        String cut = """
            cut 0 -> 1
            cut 1 -> 2
            cut 2 -> 3
            cut 3 -> 4
            cut 2 -> 5
            cut 5 -> 6
            cut 1 -> 7
            cut 0 -> 8
            start -> ok
            """;
        Calls.each(name + "a cut", cut, List.of("2", "5", "6"), "copy 1 3 N -> 9\n");
        Calls.each(name + "a cut not elsewhere", cut, List.of("0", "1", "7", "8"), "copy 1 3 N -> ISE\n");
        Calls.each("copy: but not the cut itself or one in it", cut, List.of("3", "4"), "copy 1 3 N -> ISE\n");
        Calls.each("copy: but not the cut itself or one in it, down to the last", Draw.chain(11) + "start -> ok\n",
            List.of("1", "2", "11"), "copy 1 1 N -> ISE\n");
        Calls.script("copy: a spot may come into a cut beside it, and the sheet's into any",
            "cut 0 -> 1\ncut 0 -> 2\nspot 0 0 0 0 -> 0\nstart -> ok\n" + """
            copy 0 0 0 -> 1
            copy 0 0 1 -> 2
            copy 0 0 2 -> 3
            copy 1 1 2 -> 3
            copy 1 2 1 -> 4
            tokens 0 -> 10 10 1 10 1 10 1 10 2 2 2 1 10 1 10 2 2
            """);
    }

    private static void copyLines() {
        Calls.script("copy: a spot with the same lines", """
            cut 0 -> 1
            line 0 -> 0
            line 0 -> 1
            spot 0 3 1 0 -> 0
            spot 0 2 1 5 -> 1
            spot 0 0 5 5 -> 2
            start -> ok
            copy 0 0 1 -> 3
            copy 0 1 1 -> 4
            copy 0 2 1 -> 5
            tokens 1 -> 13 101 100 12 101 10
            count 2 -> 2
            """);
        Calls.script("copy: a cut with new inner lines in the place of its own, all other lines the same", """
            cut 0 -> 1
            line 1 -> 0
            line 1 -> 1
            cut 1 -> 2
            line 2 -> 2
            spot 2 3 2 0 -> 0
            spot 2 3 1 2 -> 1
            start -> ok
            copy 1 2 1 -> 3
            tokens 3 -> 103 13 103 100 13 101 103
            tokens 2 -> 102 13 102 100 13 101 102
            back -> 0
            copy 1 1 0 -> 3
            tokens 3 -> 103 104 1 105 13 105 103 13 104 105 2
            tokens 1 -> 100 101 1 102 13 102 100 13 101 102 2
            """);
        Calls.script("copy: an inner line that nothing is hooked to is new, too", """
            cut 0 -> 1
            line 1 -> 0
            start -> ok
            copy 1 1 0 -> 2
            tokens 2 -> 101
            """);
        Calls.script("copy: a cut that has nothing", "cut 0 -> 1\nstart -> ok\ncopy 1 1 0 -> 2\ntokens 0 -> 1 2 1 2\n");
    }

    private static void copyOrder() {
        Calls.script("copy: first the cut, then its lines, its spots, then its cuts, one with all that it has"
            + " after the other", """
            cut 0 -> 1
            cut 1 -> 2
            cut 1 -> 3
            cut 2 -> 4
            line 3 -> 0
            line 2 -> 1
            line 1 -> 2
            spot 3 2 0 0 -> 0
            spot 4 2 1 0 -> 1
            spot 2 0 0 0 -> 2
            spot 1 1 0 0 -> 3
            start -> ok
            copy 1 1 0 -> 5
            tokens 5 -> 103 11 1 104 10 1 12 104 2 2 1 105 12 105 2
            tokens 6 -> 104 10 1 12 104 2
            tokens 7 -> 12 104
            tokens 8 -> 105 12 105
            wrap 0 4 -> 9
            tokens 5 -> 103 1 104 10 1 12 104 2 2 1 105 12 105 2 1 1 11 2 2
            back -> 1
            wrap 0 5 -> 9
            tokens 6 -> 104 1 12 104 2 1 1 10 2 2
            back -> 1
            wrap 0 6 -> 9
            tokens 7 -> 1 1 12 104 2 2
            back -> 1
            wrap 0 7 -> 9
            tokens 8 -> 105 1 1 12 105 2 2
            """);
        Calls.script("copy: lines and spots by their numbers", """
            cut 0 -> 1
            line 1 -> 0
            line 1 -> 1
            spot 1 2 1 0 -> 0
            spot 1 2 0 0 -> 1
            start -> ok
            copy 1 1 0 -> 2
            tokens 2 -> 102 103 12 103 12 102
            """);
    }

    private static void uncopyWhere() {
        String name = "uncopy: another one that is alike lies ";
        for (int depth = 0; depth <= 12; depth++) {
            Calls.script(name + "in the same area, depth " + depth, Draw.chain(12) + """
                spot N 0 0 0 -> 0
                spot N 0 0 0 -> 1
                start -> ok
                uncopy 0 1 -> 1
                back -> 0
                uncopy 0 0 -> 1
                uncopy 0 1 -> ISE
                """.replace("N", Integer.toString(depth)));
        }
        for (int depth = 1; depth <= 12; depth++) {
            Calls.script(name + "in one in which that area is, depth " + depth, Draw.chain(12)
                + "spot 0 0 0 0 -> 0\nspot N 0 0 0 -> 1\nstart -> ok\n".replace("N", Integer.toString(depth)) + """
                uncopy 0 0 -> ISE
                uncopy 0 1 -> 1
                """);
        }
        Calls.script(name + "not beside it, and not in an area in it", """
            cut 0 -> 1
            cut 1 -> 2
            cut 0 -> 3
            spot 1 0 0 0 -> 0
            spot 2 0 0 0 -> 1
            spot 3 0 0 0 -> 2
            cut 3 -> 4
            cut 4 -> 5
            cut 3 -> 6
            spot 5 1 0 0 -> 3
            spot 6 1 0 0 -> 4
            start -> ok
            uncopy 0 0 -> ISE
            uncopy 0 2 -> ISE
            uncopy 1 5 -> 1
            back -> 0
            uncopy 1 6 -> ISE
            uncopy 0 3 -> ISE
            uncopy 0 4 -> ISE
            uncopy 0 1 -> 1
            """);
    }

    private static void uncopyWhat() {
        Calls.script("uncopy: another one, so none goes for its own sake", """
            cut 0 -> 1
            spot 0 0 0 0 -> 0
            start -> ok
            uncopy 0 0 -> ISE
            uncopy 1 1 -> ISE
            """);
        Calls.script("uncopy: a part goes, a cut with all in it and its inner lines, and the other one stays", """
            line 0 -> 0
            cut 0 -> 1
            cut 1 -> 2
            line 1 -> 1
            line 2 -> 2
            spot 2 3 2 1 -> 0
            spot 1 2 0 0 -> 1
            start -> ok
            copy 1 1 0 -> 3
            uncopy 1 1 -> 2
            tokens 0 -> 100 1 103 12 100 1 104 13 104 103 2 2
            count 0 -> 2
            count 1 -> 2
            count 2 -> 3
            back -> 1
            uncopy 1 3 -> 2
            tokens 0 -> 100 1 101 12 100 1 102 13 102 101 2 2
            """);
        Calls.script("uncopy: a spot goes alone, though its line is hooked nowhere else in its area", """
            cut 0 -> 1
            line 0 -> 0
            spot 0 2 0 0 -> 0
            spot 1 2 0 0 -> 1
            start -> ok
            uncopy 0 1 -> 1
            tokens 0 -> 100 12 100 1 2
            """);
        Calls.script("uncopy: the twelfth spot and the twelfth cut", Draw.row(12)
            + Draw.spotsFrom(1, 12) + """
            start -> ok
            uncopy 1 12 -> 1
            uncopy 0 10 -> ISE
            spot 11 0 0 0 -> 11
            uncopy 0 11 -> 3
            """);
    }

    private static void wrapWhat() {
        Calls.script("wrap: a cut comes into an area, a cut into this, and into that a part from the area", """
            line 0 -> 0
            spot 0 2 0 0 -> 0
            spot 0 1 0 0 -> 1
            cut 0 -> 1
            line 1 -> 1
            spot 1 3 0 1 -> 2
            cut 0 -> 2
            start -> ok
            wrap 1 1 -> 3
            tokens 0 -> 100 12 100 11 1 2 1 1 1 101 13 100 101 2 2 2
            depth 3 -> 1
            depth 4 -> 2
            depth 1 -> 3
            wrap 0 0 -> 5
            tokens 0 -> 100 11 1 2 1 1 1 101 13 100 101 2 2 2 1 1 12 100 2 2
            erase 2 0 -> ISE
            unwrap 5 -> 3
            unwrap 3 -> 4
            tokens 0 -> 100 12 100 11 1 101 13 100 101 2 1 2
            """);
        Calls.script("wrap: or nothing", """
            start -> ok
            wrap 2 0 -> 1
            tokens 0 -> 1 1 2 2
            wrap 2 1 -> 3
            wrap 2 2 -> 5
            tokens 0 -> 1 1 1 1 2 2 2 1 1 2 2 2
            """);
        Calls.script("wrap: nothing, though the area has something", """
            line 0 -> 0
            spot 0 2 0 0 -> 0
            cut 0 -> 1
            start -> ok
            wrap 2 0 -> 2
            tokens 0 -> 100 12 100 1 2 1 1 2 2
            """);
    }

    private static void wrapDepths() {
        for (int depth = 0; depth <= 10; depth++) {
            String sheet = Draw.chain(10) + "spot " + depth + " 0 0 0 -> 0\nstart -> ok\n";
            Calls.script("wrap: a spot in an area of any depth", sheet + "wrap 0 0 -> 11\ndepth 11 -> " + (depth + 1));
            Calls.script("wrap: nothing in an area of any depth",
                sheet + "wrap 2 " + depth + " -> 11\ndepth 12 -> " + (depth + 2));
            if (depth < 10) {
                Calls.script("wrap: a cut in an area of any depth",
                    sheet + "wrap 1 " + (depth + 1) + " -> 11\ndepth 10 -> 12\n");
            }
        }
    }

    private static void unwrapWhich() {
        String name = "unwrap: a cut in which there is nothing but one cut, ";
        Calls.script(name + "so not an empty one", "cut 0 -> 1\nstart -> ok\nunwrap 1 -> ISE\n");
        Calls.script(name + "not two", "cut 0 -> 1\ncut 1 -> 2\ncut 1 -> 3\nstart -> ok\nunwrap 1 -> ISE\n");
        Calls.script(name + "not a spot, too", """
            cut 0 -> 1
            cut 1 -> 2
            spot 1 0 0 0 -> 0
            start -> ok
            unwrap 1 -> ISE
            """);
        Calls.script(name + "not a spot instead", "cut 0 -> 1\nspot 1 0 0 0 -> 0\nstart -> ok\nunwrap 1 -> ISE\n");
        Calls.script("unwrap: that is no line's outer area", """
            cut 0 -> 1
            cut 1 -> 2
            line 1 -> 0
            start -> ok
            unwrap 1 -> ISE
            """);
        Calls.script("unwrap: the inner one may be a line's, and what lies where the outer one is does not matter", """
            cut 0 -> 1
            cut 1 -> 2
            line 2 -> 0
            line 0 -> 1
            spot 2 2 1 0 -> 0
            spot 0 2 1 0 -> 1
            cut 0 -> 3
            start -> ok
            unwrap 1 -> 1
            tokens 0 -> 100 101 12 101 12 101 1 2
            """);
        for (int depth = 0; depth <= 10; depth++) {
            Calls.script("unwrap: in an area of any depth", Draw.chain(12) + "start -> ok\nunwrap " + (depth + 1)
                + " -> 1\ncount 0 -> 10\n" + (depth < 10 ? "depth 12 -> 10\n" : "depth 10 -> 10\n"));
        }
    }

    private static void unwrapWhat() {
        Calls.script("unwrap: both go, and there was nothing in the inner one", """
            cut 0 -> 1
            cut 1 -> 2
            start -> ok
            unwrap 1 -> 1
            tokens 0 -> none
            depth 1 -> IAE
            depth 2 -> IAE
            """);
        Calls.script("unwrap: what lay in the inner one, lines, too, lies in the area where the outer one was", """
            cut 0 -> 1
            cut 1 -> 2
            cut 2 -> 3
            cut 3 -> 4
            cut 3 -> 5
            line 3 -> 0
            line 3 -> 1
            line 4 -> 2
            spot 3 3 1 0 -> 0
            spot 4 3 0 2 -> 1
            spot 3 0 0 0 -> 2
            start -> ok
            unwrap 2 -> 1
            tokens 1 -> 100 101 13 101 100 10 1 102 13 100 102 2 1 2
            depth 4 -> 2
            depth 5 -> 2
            spot 1 3 0 1 -> 3
            join 0 1 -> 3
            erase 1 4 -> ISE
            erase 2 2 -> ISE
            """);
        Calls.script("unwrap: the outer one has the greater number", """
            cut 0 -> 1
            spot 1 0 0 0 -> 0
            cut 1 -> 2
            start -> ok
            wrap 1 1 -> 3
            unwrap 4 -> 2
            tokens 0 -> 1 10 1 2 2
            depth 3 -> 1
            depth 2 -> 2
            depth 1 -> IAE
            depth 4 -> IAE
            """);
    }

    private static void joinWhich() {
        for (int first = 0; first < 6; first++) {
            StringBuilder all = new StringBuilder(Draw.chain(5)).append(Draw.linesFrom(0, 6)).append("start -> ok\n");
            for (int second = 0; second < 6; second++) {
                all.append("join ").append(first).append(' ').append(second).append(" -> ");
                if (first == second) {
                    all.append("IAE\n");
                } else {
                    all.append(first % 2 == 1 && second < first ? "1\nback -> 0\n" : "ISE\n");
                }
            }
            Calls.script("join: the first's outer area has an odd depth, and is in the second's", all.toString());
        }
        Calls.script("join: or is the second's", """
            cut 0 -> 1
            cut 1 -> 2
            line 0 -> 0
            line 0 -> 1
            line 1 -> 2
            line 1 -> 3
            line 2 -> 4
            line 2 -> 5
            start -> ok
            join 0 1 -> ISE
            join 5 4 -> ISE
            join 2 3 -> 1
            back -> 0
            join 3 2 -> 1
            """);
        Calls.script("join: not beside it", "cut 0 -> 1\ncut 0 -> 2\nline 1 -> 0\nline 2 -> 1\nstart -> ok\n"
            + "join 0 1 -> ISE\njoin 1 0 -> ISE\n");
        Calls.script("join: at the depth 11, of a line of the sheet", Draw.chain(12) + """
            line 11 -> 0
            line 0 -> 1
            line 12 -> 2
            spot 12 3 2 0 -> 0
            start -> ok
            join 2 0 -> ISE
            join 0 2 -> ISE
            join 0 1 -> 1
            tokens 12 -> 102 13 102 101
            """);
    }

    private static void joinWhat() {
        Calls.script("join: of two lines the first goes, and the second is hooked where it was", """
            cut 0 -> 1
            cut 1 -> 2
            line 0 -> 0
            line 1 -> 1
            line 1 -> 2
            spot 1 3 1 1 -> 0
            spot 1 3 2 1 -> 1
            spot 2 3 1 0 -> 2
            spot 0 2 0 0 -> 3
            start -> ok
            join 1 0 -> 1
            tokens 0 -> 100 12 100 1 102 13 100 100 13 102 100 1 13 100 100 2 2
            count 2 -> 2
            join 1 0 -> IAE
            sever 1 2 -> IAE
            line 1 -> 1
            tokens 1 -> 101 102 13 100 100 13 102 100 1 13 100 100 2
            """);
        Calls.script("join: where it was nowhere, the first goes all the same", """
            cut 0 -> 1
            line 1 -> 0
            line 1 -> 1
            spot 1 2 1 0 -> 0
            start -> ok
            join 0 1 -> 1
            tokens 0 -> 1 101 12 101 2
            """);
        Calls.script("join: the second's outer area stays", """
            cut 0 -> 1
            line 0 -> 0
            line 1 -> 1
            start -> ok
            join 1 0 -> 1
            tokens 0 -> 100 1 2
            """);
    }

    private static void severWhich() {
        for (int line = 0; line < 5; line++) {
            StringBuilder all = new StringBuilder(Draw.chain(6)).append(Draw.linesFrom(0, 5)).append("start -> ok\n");
            for (int area = 0; area <= 6; area++) {
                all.append("sever ").append(line).append(' ').append(area).append(" -> ");
                all.append(area % 2 == 0 && area >= line ? "5\nback -> 0\n" : "ISE\n");
            }
            Calls.script("sever: of even depth, the line's outer area is a, or a is in it", all.toString());
        }
        Calls.script("sever: not beside it", Draw.chain(2) + """
            cut 1 -> 3
            line 2 -> 0
            start -> ok
            sever 0 3 -> ISE
            sever 0 0 -> ISE
            sever 0 2 -> 1
            """);
        Calls.script("sever: at the depth 12, a line of the sheet", Draw.chain(12) + """
            line 0 -> 0
            spot 12 3 0 0 -> 0
            spot 11 2 0 0 -> 1
            start -> ok
            sever 0 11 -> ISE
            sever 0 12 -> 1
            tokens 11 -> 12 100 1 101 13 101 101 2
            """);
    }

    private static void severWhat() {
        Calls.script("sever: in all spots in a or in areas in it, and in no others", """
            cut 0 -> 1
            cut 1 -> 2
            cut 2 -> 3
            cut 3 -> 4
            cut 1 -> 5
            line 0 -> 0
            line 0 -> 1
            spot 0 3 0 1 -> 0
            spot 1 3 0 0 -> 1
            spot 2 3 0 1 -> 2
            spot 2 3 1 0 -> 3
            spot 3 2 0 0 -> 4
            spot 4 3 0 0 -> 5
            spot 5 2 0 0 -> 6
            start -> ok
            sever 0 2 -> 2
            tokens 1 -> 13 100 100 1 102 13 102 101 13 101 102 1 12 102 1 13 102 102 2 2 2 1 12 100 2
            sever 0 0 -> 3
            erase 2 0 -> 3
            tokens 1 -> 13 103 103 1 102 13 102 101 13 101 102 1 12 102 1 13 102 102 2 2 2 1 12 103 2
            """);
        Calls.script("sever: a new line also where the line is hooked to nothing", """
            line 0 -> 0
            start -> ok
            sever 0 0 -> 1
            tokens 0 -> 100 101
            erase 2 0 -> 2
            """);
        Calls.script("sever: in its own outer area nothing stays hooked to the line", """
            cut 0 -> 1
            line 0 -> 0
            spot 0 2 0 0 -> 0
            spot 1 2 0 0 -> 1
            start -> ok
            sever 0 0 -> 1
            erase 2 1 -> ISE
            erase 2 0 -> 2
            tokens 0 -> 101 12 101 1 12 101 2
            """);
    }
}
