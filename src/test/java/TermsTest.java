import java.util.ArrayList;
import java.util.List;

/**
 * The part 'Terms' of the document up to its table of moves, and its worlds: a test for each sentence that names a
 * boundary case, named by that sentence.
 */
public final class TermsTest {
    public static void main(String[] args) {
        calls();
        areas();
        in();
        depth();
        lines();
        lastLine();
        spots();
        lastSpot();
        lastCut();
        signs();
        hooked();
        leastNumbers();
        leastNumbersOfParts();
        parts();
        innerLines();
        reading();
        alike();
        alikeByOrder();
        drawn();
        moves();
        worlds();
        holds();
        Calls.end();
    }

    private static void calls() {
        StringBuilder all = new StringBuilder("line 0 -> 0\nspot 0 2 0 0 -> 0\nstart -> ok\n");
        for (int i = 0; i < 253; i++) {
            all.append("wrap 0 0 -> 1\nback -> 0\n");
        }
        Calls.script("an object is used for at most 512 calls", all + """
            wrap 0 0 -> 1
            read 0 -> 7
            token 6 -> 2
            """);
    }

    private static void areas() {
        String name = "0 is the sheet itself, others are the cuts 1 .. 12 that are there";
        List<String> none = with(Draw.outside(-1, 13), "2", "12");
        Calls.each(name + ", drawn", "cut 0 -> 1\n", none, """
            cut N -> IAE
            line N -> IAE
            spot N 0 0 0 -> IAE
            depth N -> IAE
            read N -> IAE
            """);
        Calls.each(name + ", moved", "cut 0 -> 1\nline 0 -> 0\nspot 0 0 0 0 -> 0\nstart -> ok\n", none, """
            cut N -> IAE
            line N -> IAE
            spot N 0 0 0 -> IAE
            copy 0 0 N -> IAE
            copy 1 1 N -> IAE
            wrap 2 N -> IAE
            sever 0 N -> IAE
            depth N -> IAE
            read N -> IAE
            """);
        Calls.each(name + ", as cuts", "cut 0 -> 1\ncut 1 -> 2\ncut 2 -> 3\nstart -> ok\nunwrap 2 -> 1\n",
            with(none, "0", "3"), """
            erase 1 N -> IAE
            copy 1 N 0 -> IAE
            uncopy 1 N -> IAE
            wrap 1 N -> IAE
            unwrap N -> IAE
            """);
        Calls.script("the cuts 1 .. 12: the last one is an area", Draw.chain(12) + """
            depth 12 -> 12
            read 12 -> 0
            line 12 -> 0
            spot 12 2 0 0 -> 0
            cut 12 -> UOE
            start -> ok
            copy 0 0 12 -> 1
            sever 0 12 -> 1
            tokens 12 -> 100 101 12 101 12 101
            unwrap 12 -> ISE
            erase 1 12 -> ISE
            """);
        Calls.script("the cuts that are there: one goes, and comes again", """
            cut 0 -> 1
            start -> ok
            erase 1 1 -> 1
            depth 1 -> IAE
            read 1 -> IAE
            cut 1 -> IAE
            wrap 2 1 -> IAE
            wrap 1 1 -> IAE
            back -> 0
            depth 1 -> 1
            read 1 -> 0
            cut 1 -> 2
            """);
    }

    private static void in() {
        Calls.script("in another one: it lies in one that is in it, through all twelve", Draw.chain(12) + """
            line 0 -> 0
            line 1 -> 1
            spot 12 3 0 1 -> 0
            spot 0 2 1 0 -> IAE
            spot 1 3 1 0 -> 1
            start -> ok
            copy 0 1 12 -> 2
            sever 0 12 -> 2
            tokens 12 -> 102 13 102 101 13 101 102
            """);
        Calls.script("in another one: the numbers do not tell which", """
            cut 0 -> 1
            spot 1 0 0 0 -> 0
            cut 0 -> 2
            start -> ok
            wrap 1 1 -> 3
            line 3 -> 0
            spot 1 2 0 0 -> 1
            spot 2 2 0 0 -> IAE
            spot 3 2 0 0 -> 2
            copy 0 2 1 -> 3
            copy 0 1 3 -> ISE
            copy 1 3 1 -> ISE
            copy 1 3 4 -> ISE
            copy 1 3 3 -> ISE
            copy 1 3 2 -> 5
            """);
    }

    private static void depth() {
        StringBuilder depths = new StringBuilder(Draw.chain(12));
        for (int area = 0; area <= 12; area++) {
            depths.append("depth ").append(area).append(" -> ").append(area).append('\n');
        }
        Calls.script("of the sheet 0, of a cut that lies in the sheet 1, and so on", depths.toString());
        Calls.script("of every cut that lies in the sheet 1",
            Draw.row(12) + "depth 12 -> 1\ndepth 1 -> 1\ndepth 0 -> 0\n");
    }

    private static void lines() {
        String name = "lines are numbers 0 .. 5";
        List<String> none = with(Draw.outside(-1, 6), "1", "5");
        Calls.each(name, "line 0 -> 0\n", none, """
            spot 0 2 N 0 -> IAE
            spot 0 3 N 0 -> IAE
            spot 0 3 0 N -> IAE
            start -> ok
            erase 2 N -> IAE
            join N 0 -> IAE
            join 0 N -> IAE
            join N N -> IAE
            sever N 0 -> IAE
            """);
        Calls.script("lines are numbers 0 .. 5: six of them, the last as good as the others", "cut 0 -> 1\n"
            + Draw.lines(6, 1) + """
            line 0 -> UOE
            spot 1 3 5 5 -> 0
            count 2 -> 6
            start -> ok
            line 1 -> UOE
            join 5 4 -> 1
            line 1 -> 5
            line 1 -> UOE
            """);
        Calls.script("lines are numbers 0 .. 5: the last one is severed and goes", Draw.lines(5, 0) + """
            spot 0 2 4 0 -> 0
            start -> ok
            sever 4 0 -> 5
            tokens 0 -> 100 101 102 103 104 105 12 105
            sever 5 0 -> UOE
            erase 2 5 -> ISE
            erase 0 0 -> 2
            erase 2 5 -> 3
            """);
    }

    private static void lastLine() {
        String name = "lines are numbers 0 .. 5: the last one, and the first, ";
        Calls.script(name + "of a spot that is copied", Draw.lines(6, 0) + """
            spot 0 3 5 0 -> 0
            start -> ok
            copy 0 0 0 -> 1
            tokens 0 -> 100 101 102 103 104 105 13 105 100 13 105 100
            """);
        Calls.script(name + "inside a cut that is copied", "cut 0 -> 1\nline 1 -> 0\nline 0 -> 1\nline 0 -> 2\n" + """
            line 0 -> 3
            line 0 -> 4
            line 1 -> 5
            spot 1 3 5 0 -> 0
            start -> ok
            erase 2 4 -> 1
            erase 2 2 -> 2
            copy 1 1 0 -> 2
            tokens 2 -> 102 104 13 104 102
            copy 0 0 1 -> 2
            tokens 1 -> 100 105 13 105 100 13 105 100
            uncopy 0 2 -> 5
            uncopy 1 1 -> 6
            tokens 0 -> 101 103 1 102 104 13 104 102 2
            """);
        Calls.script(name + "in worlds: of six lines that are all hooked", Draw.lines(6, 0) + """
            spot 0 3 0 1 -> 0
            spot 0 3 1 2 -> 1
            spot 0 3 2 3 -> 2
            spot 0 3 3 4 -> 3
            spot 0 3 4 5 -> 4
            spot 0 2 5 0 -> 5
            holds false 2 328 -> true
            holds false 2 324 -> true
            spot 0 2 0 0 -> 6
            holds false 2 328 -> false
            """);
        Calls.script(name + "in worlds: of a cut", """
            cut 0 -> 1
            line 1 -> 0
            spot 1 2 0 0 -> 0
            line 0 -> 1
            line 0 -> 2
            line 0 -> 3
            line 0 -> 4
            cut 0 -> 2
            line 2 -> 5
            spot 2 3 5 5 -> 1
            holds false 2 4 -> false
            holds false 2 8 -> false
            holds false 2 32 -> false
            holds false 2 512 -> false
            holds false 2 320 -> true
            """);
    }

    private static void spots() {
        String name = "spots are numbers 0 .. 11";
        Calls.each(name, "spot 0 0 0 0 -> 0\nstart -> ok\n", with(Draw.outside(-1, 12), "1", "11"), """
            erase 0 N -> IAE
            copy 0 N 0 -> IAE
            uncopy 0 N -> IAE
            wrap 0 N -> IAE
            """);
        Calls.script("spots are numbers 0 .. 11: twelve of them, the last as good as the others",
            Draw.spots(12, 0) + """
            spot 0 0 0 0 -> UOE
            count 1 -> 12
            start -> ok
            copy 0 11 0 -> UOE
            wrap 0 11 -> 1
            uncopy 0 11 -> 2
            copy 0 10 2 -> 11
            tokens 1 -> 1 10 2
            copy 0 10 2 -> UOE
            erase 0 11 -> 4
            """);
    }

    private static void lastSpot() {
        String name = "spots are numbers 0 .. 11: the last one, ";
        String sheet = "cut 0 -> 1\nline 1 -> 0\nline 1 -> 1\nline 0 -> 2\n" + Draw.spots(11, 0)
            + "spot 1 3 0 1 -> 11\n";
        Calls.script(name + "after a move, in a copy, and joined", sheet + """
            start -> ok
            erase 0 3 -> 1
            tokens 1 -> 100 101 13 100 101
            copy 1 1 0 -> 2
            tokens 2 -> 103 104 13 103 104
            join 1 2 -> 3
            tokens 1 -> 100 13 100 102
            join 0 2 -> 4
            tokens 1 -> 13 102 102
            erase 2 2 -> ISE
            sever 2 0 -> 0
            tokens 1 -> 13 100 100
            erase 2 2 -> 6
            """);
        Calls.script(name + "what is hooked there", "line 0 -> 0\nline 0 -> 1\n" + Draw.spots(11, 0) + """
            spot 0 3 0 1 -> 11
            start -> ok
            erase 2 0 -> ISE
            erase 2 1 -> ISE
            erase 0 11 -> 1
            erase 2 1 -> 2
            erase 2 0 -> 3
            """);
        Calls.script(name + "in worlds", sheet + """
            holds false 2 1 -> true
            holds false 2 65 -> false
            holds false 2 257 -> false
            start -> ok
            wrap 2 0 -> 2
            holds false 2 1 -> true
            holds false 2 65 -> false
            """);
    }

    private static void lastCut() {
        Calls.script("the cuts 1 .. 12: the last one inside a copy, and alike", Draw.row(11) + """
            cut 11 -> 12
            spot 12 0 0 0 -> 0
            start -> ok
            erase 1 10 -> 1
            erase 1 1 -> 2
            copy 1 11 0 -> 1
            tokens 1 -> 1 10 2
            tokens 10 -> 10
            uncopy 1 11 -> 4
            """);
        Calls.script("the cuts 1 .. 12: the first one inside a copy, and alike", """
            cut 0 -> 1
            spot 1 0 0 0 -> 0
            start -> ok
            wrap 1 1 -> 2
            copy 1 2 0 -> 4
            tokens 4 -> 1 1 10 2 2
            uncopy 1 2 -> 3
            unwrap 4 -> 4
            tokens 0 -> 1 10 2
            """);
        Calls.script("the cuts 1 .. 12: alike with the last one alone", Draw.row(12)
            + Draw.spotsFrom(2, 10).replace("11 0 0 0", "11 1 0 0") + """
            start -> ok
            uncopy 1 11 -> ISE
            uncopy 1 1 -> 1
            uncopy 1 12 -> ISE
            """);
    }

    private static void signs() {
        Calls.each("a sign is 0 to 3", "line 0 -> 0\n", Draw.outside(-1, 4), "spot 0 N 0 0 -> IAE\n");
        Calls.each("0 and 1 without places: anything may be given there", "", with(Draw.outside(-1, 6), "0"), """
            spot 0 0 N 0 -> 0
            spot 0 1 0 N -> 1
            spot 0 0 N N -> 2
            spot 0 2 0 0 -> IAE
            spot 0 3 0 0 -> IAE
            tokens 0 -> 10 11 10
            """);
        Calls.each("2 with one: anything may be given for a second", "line 0 -> 0\n", Draw.outside(-1, 6), """
            spot 0 2 0 N -> 0
            spot 0 2 N 0 -> IAE
            tokens 0 -> 100 12 100
            """);
        Calls.each("3 with two: both are lines", "line 0 -> 0\n", Draw.outside(-1, 6), """
            spot 0 3 0 N -> IAE
            spot 0 3 N 0 -> IAE
            spot 0 3 0 0 -> 0
            tokens 0 -> 100 13 100 100
            """);
        Calls.script("what is given for places that a sign does not have is not hooked", """
            line 0 -> 0
            line 0 -> 1
            spot 0 0 0 1 -> 0
            spot 0 1 1 0 -> 1
            spot 0 2 0 1 -> 2
            start -> ok
            erase 2 0 -> ISE
            erase 2 1 -> 1
            """);
    }

    private static void hooked() {
        String sheet = """
            cut 0 -> 1
            cut 1 -> 2
            cut 2 -> 3
            cut 1 -> 4
            cut 0 -> 5
            line 0 -> 0
            line 2 -> 1
            """;
        Calls.script("hooked: the line's outer area is the spot's", sheet + "spot 2 2 1 0 -> 0\nspot 0 2 0 0 -> 1\n");
        Calls.script("hooked: or the spot's is in it", sheet + """
            spot 3 2 1 0 -> 0
            spot 3 3 0 1 -> 1
            spot 3 3 1 0 -> 2
            spot 5 3 0 0 -> 3
            """);
        Calls.each("hooked: in no other area", sheet, List.of("0", "1", "4", "5"), """
            spot N 2 1 0 -> IAE
            spot N 3 1 0 -> IAE
            spot N 3 0 1 -> IAE
            spot N 3 0 0 -> 0
            """);
    }

    private static void leastNumbers() {
        String name = "the least number that is free: ";
        Calls.script(name + "cuts", Draw.row(12) + """
            start -> ok
            erase 1 12 -> 1
            erase 1 3 -> 2
            erase 1 9 -> 3
            cut 1 -> 3
            cut 1 -> 9
            back -> 4
            cut 1 -> 9
            cut 1 -> 12
            cut 1 -> UOE
            """);
        Calls.script(name + "the first cut", """
            cut 0 -> 1
            cut 0 -> 2
            start -> ok
            erase 1 1 -> 1
            cut 2 -> 1
            cut 2 -> 3
            """);
        Calls.script(name + "lines", "cut 0 -> 1\n" + Draw.lines(6, 0) + """
            start -> ok
            erase 2 5 -> 1
            erase 2 0 -> 2
            erase 2 3 -> 3
            line 1 -> 0
            line 1 -> 3
            back -> 4
            line 1 -> 3
            line 1 -> 5
            line 1 -> UOE
            """);
        Calls.script(name + "spots", "cut 0 -> 1\n" + Draw.spots(12, 0) + """
            start -> ok
            erase 0 11 -> 1
            erase 0 7 -> 2
            erase 0 0 -> 3
            spot 1 1 0 0 -> 0
            spot 1 1 0 0 -> 7
            back -> 4
            spot 1 1 0 0 -> 7
            spot 1 1 0 0 -> 11
            spot 1 1 0 0 -> UOE
            """);
    }

    private static void leastNumbersOfParts() {
        String name = "the least number that is free: ";
        Calls.script(name + "copy of a spot", Draw.spots(12, 0) + """
            start -> ok
            erase 0 4 -> 1
            erase 0 0 -> 2
            copy 0 11 0 -> 0
            copy 0 11 0 -> 4
            copy 0 11 0 -> UOE
            """);
        Calls.script(name + "copy of a cut, and all in it", """
            cut 0 -> 1
            cut 0 -> 2
            cut 0 -> 3
            cut 3 -> 4
            line 0 -> 0
            line 3 -> 1
            line 0 -> 2
            line 4 -> 3
            spot 0 0 0 0 -> 0
            spot 3 2 1 0 -> 1
            spot 4 2 3 0 -> 2
            start -> ok
            erase 1 2 -> 1
            erase 2 0 -> 2
            erase 0 0 -> 3
            copy 1 3 0 -> 2
            tokens 2 -> 100 12 100 1 104 12 104 2
            tokens 5 -> 104 12 104
            uncopy 0 0 -> ISE
            uncopy 0 3 -> ISE
            wrap 0 4 -> IAE
            """);
        Calls.script(name + "wrap, the outer cut first", Draw.row(12) + """
            start -> ok
            erase 1 4 -> 1
            erase 1 7 -> 2
            wrap 2 12 -> 4
            tokens 12 -> 1 1 2 2
            depth 4 -> 2
            depth 7 -> 3
            """);
        Calls.script(name + "sever", Draw.lines(6, 0) + """
            start -> ok
            erase 2 4 -> 1
            erase 2 2 -> 2
            sever 5 0 -> 2
            sever 5 0 -> 4
            sever 5 0 -> UOE
            """);
    }

    private static void parts() {
        Calls.script("a part is a spot, or a cut: a line is none", """
            line 0 -> 0
            line 0 -> 1
            start -> ok
            copy 2 0 0 -> IAE
            uncopy 2 0 -> IAE
            """);
        Calls.script("a part is a cut with all that lies in it and in areas in it: an empty one is one, too", """
            cut 0 -> 1
            start -> ok
            copy 1 1 0 -> 2
            wrap 1 2 -> 3
            uncopy 1 2 -> 3
            erase 1 3 -> 4
            count 0 -> 1
            """);
        Calls.script("a part is a cut with all that lies in it and in areas in it: down to the twelfth",
            Draw.chain(12) + Draw.linesFrom(7, 6) + Draw.spotsFrom(1, 12) + """
            start -> ok
            erase 1 1 -> 1
            count 0 -> 0
            count 1 -> 0
            count 2 -> 0
            back -> 0
            erase 1 11 -> 1
            count 0 -> 10
            count 1 -> 10
            count 2 -> 4
            """);
    }

    private static void innerLines() {
        Calls.script("inner lines: whose outer area is the cut, or in it", """
            line 0 -> 0
            cut 0 -> 1
            line 1 -> 1
            cut 1 -> 2
            line 2 -> 2
            spot 2 3 0 2 -> 0
            spot 2 3 1 0 -> 1
            start -> ok
            copy 1 1 0 -> 3
            tokens 3 -> 103 1 104 13 100 104 13 103 100 2
            erase 1 3 -> 2
            count 2 -> 3
            erase 1 1 -> 3
            count 2 -> 1
            tokens 0 -> 100
            """);
        Calls.script("inner lines: not one of the area where the cut lies, though it is hooked in the cut alone", """
            cut 0 -> 1
            cut 1 -> 2
            line 1 -> 0
            spot 2 2 0 0 -> 0
            start -> ok
            copy 1 2 1 -> 3
            tokens 1 -> 100 1 12 100 2 1 12 100 2
            uncopy 1 2 -> 2
            count 2 -> 1
            """);
    }

    private static void reading() {
        Calls.script("reading: of an empty area no token, of a cut in it two more", """
            tokens 0 -> none
            cut 0 -> 1
            tokens 1 -> none
            tokens 0 -> 1 2
            """);
        Calls.script("reading: the least and the greatest numbers and signs", """
            spot 0 0 0 0 -> 0
            """ + Draw.lines(6, 0) + """
            spot 0 3 5 0 -> 1
            tokens 0 -> 100 101 102 103 104 105 10 13 105 100
            """);
        Calls.script("reading: by their numbers, not as they came", """
            cut 0 -> 1
            cut 0 -> 2
            line 0 -> 0
            line 0 -> 1
            spot 0 0 0 0 -> 0
            spot 0 1 0 0 -> 1
            spot 1 0 0 0 -> 2
            spot 2 1 0 0 -> 3
            start -> ok
            erase 0 0 -> 1
            copy 0 1 0 -> 0
            erase 0 1 -> 3
            erase 1 1 -> 4
            copy 1 2 0 -> 1
            erase 2 0 -> 6
            sever 1 0 -> 0
            tokens 0 -> 100 101 11 1 11 2 1 11 2
            spot 2 0 0 0 -> 2
            tokens 0 -> 100 101 11 1 11 2 1 10 11 2
            """);
        Calls.script("reading: all that a sheet can have, twelve deep", Draw.chain(12) + Draw.lines(6, 0)
            + Draw.spots(12, 12).replaceAll("12 0 0 0", "12 3 5 5") + """
            read 0 -> 66
            token 0 -> 100
            token 5 -> 105
            token 6 -> 1
            token 17 -> 1
            token 18 -> 13
            token 53 -> 105
            token 54 -> 2
            token 65 -> 2
            token 66 -> IOOBE
            read 12 -> 36
            token 35 -> 105
            token 36 -> IOOBE
            """);
    }

    private static void alike() {
        Calls.script("alike: both are spots, or both cuts", """
            cut 0 -> 1
            spot 1 0 0 0 -> 0
            spot 0 0 0 0 -> 1
            start -> ok
            uncopy 1 1 -> ISE
            uncopy 0 1 -> ISE
            uncopy 0 0 -> 1
            """);
        Calls.script("alike: empty cuts", """
            cut 0 -> 1
            cut 0 -> 2
            start -> ok
            uncopy 1 1 -> 1
            uncopy 1 2 -> ISE
            """);
        Calls.script("alike: a reading that only begins the same is not", """
            cut 0 -> 1
            spot 1 0 0 0 -> 0
            cut 0 -> 2
            spot 2 0 0 0 -> 1
            spot 2 0 0 0 -> 2
            cut 0 -> 3
            start -> ok
            uncopy 1 1 -> ISE
            uncopy 1 2 -> ISE
            uncopy 1 3 -> ISE
            uncopy 0 2 -> 1
            uncopy 1 2 -> 2
            """);
        Calls.script("alike: nor one that only ends otherwise", """
            cut 0 -> 1
            spot 1 0 0 0 -> 0
            spot 1 1 0 0 -> 1
            cut 0 -> 2
            spot 2 0 0 0 -> 2
            spot 2 0 0 0 -> 3
            start -> ok
            uncopy 1 1 -> ISE
            uncopy 1 2 -> ISE
            """);
        Calls.script("alike: spots by the signs, and by the lines of both places", """
            line 0 -> 0
            line 0 -> 1
            spot 0 3 0 1 -> 0
            spot 0 3 0 0 -> 1
            spot 0 3 1 1 -> 2
            spot 0 2 0 0 -> 3
            spot 0 2 1 0 -> 4
            spot 0 0 0 0 -> 5
            spot 0 1 0 0 -> 6
            start -> ok
            uncopy 0 0 -> ISE
            uncopy 0 1 -> ISE
            uncopy 0 2 -> ISE
            uncopy 0 3 -> ISE
            uncopy 0 4 -> ISE
            uncopy 0 5 -> ISE
            uncopy 0 6 -> ISE
            """);
    }

    private static void alikeByOrder() {
        Calls.script("alike: the k-th inner line that is read first, from 0, whatever its number", """
            cut 0 -> 1
            cut 1 -> 2
            line 2 -> 0
            line 1 -> 1
            spot 2 3 1 0 -> 0
            cut 0 -> 3
            cut 3 -> 4
            line 3 -> 2
            line 4 -> 3
            spot 4 3 2 3 -> 1
            start -> ok
            uncopy 1 3 -> 1
            back -> 0
            uncopy 1 1 -> 1
            """);
        Calls.script("alike: not if two inner lines are exchanged", """
            cut 0 -> 1
            line 1 -> 0
            line 1 -> 1
            spot 1 3 0 1 -> 0
            cut 0 -> 2
            line 2 -> 2
            line 2 -> 3
            spot 2 3 3 2 -> 1
            start -> ok
            uncopy 1 1 -> ISE
            uncopy 1 2 -> ISE
            """);
        Calls.script("alike: not if one has an inner line where the other has one from outside", """
            line 0 -> 0
            cut 0 -> 1
            line 1 -> 1
            spot 1 2 1 0 -> 0
            cut 0 -> 2
            line 2 -> 2
            spot 2 2 0 0 -> 1
            start -> ok
            uncopy 1 1 -> ISE
            uncopy 1 2 -> ISE
            """);
        Calls.script("alike: inner lines that nothing is hooked to are read, too", """
            cut 0 -> 1
            line 1 -> 0
            cut 0 -> 2
            line 2 -> 1
            line 2 -> 2
            start -> ok
            uncopy 1 1 -> ISE
            join 2 1 -> 1
            uncopy 1 1 -> 2
            """);
        Calls.script("alike: three inner lines of each, numbered in turns", """
            cut 0 -> 1
            cut 0 -> 2
            line 1 -> 0
            line 2 -> 1
            line 1 -> 2
            line 2 -> 3
            line 1 -> 4
            line 2 -> 5
            spot 1 3 4 2 -> 0
            spot 2 3 5 3 -> 1
            start -> ok
            uncopy 1 2 -> 1
            tokens 0 -> 1 100 102 104 13 104 102 2
            """);
    }

    private static void drawn() {
        Calls.script("at first a sheet is drawn, in any order, in areas of any depth", """
            line 0 -> 0
            spot 0 2 0 0 -> 0
            cut 0 -> 1
            spot 1 2 0 0 -> 1
            cut 1 -> 2
            line 2 -> 1
            cut 2 -> 3
            spot 2 3 0 1 -> 2
            line 3 -> 2
            cut 0 -> 4
            tokens 0 -> 100 12 100 1 12 100 1 101 13 100 101 1 102 2 2 2 1 2
            """);
        Calls.script("until start(): thirty things are drawn, and none of that is a move",
            Draw.row(12) + Draw.lines(6, 0) + Draw.spots(12, 0) + """
            count 3 -> 0
            back -> ISE
            start -> ok
            count 3 -> 0
            back -> ISE
            erase 0 0 -> 1
            """);
    }

    private static void moves() {
        Calls.script("at most 20 of them: the 20th is made, another is not, and each can be taken back",
            "spot 0 0 0 0 -> 0\nstart -> ok\n" + Draw.moves(18, 1) + """
            wrap 2 0 -> 1
            count 3 -> 19
            spot 1 1 0 0 -> 1
            count 3 -> 20
            spot 1 1 0 0 -> UOE
            unwrap 1 -> ISE
            erase 0 0 -> UOE
            count 3 -> 20
            tokens 0 -> 10 1 11 1 2 2
            back -> 19
            tokens 0 -> 10 1 1 2 2
            erase 0 0 -> 20
            tokens 0 -> 1 1 2 2
            unwrap 1 -> UOE
            """);
        StringBuilder all = new StringBuilder("spot 0 0 0 0 -> 0\nstart -> ok\n").append(Draw.moves(20, 1));
        for (int left = 19; left >= 0; left--) {
            all.append("back -> ").append(left).append("\nread 0 -> ").append(left % 2 == 0 ? 1 : 5).append('\n');
        }
        Calls.script("all 20 are taken back, and made again", all + "back -> ISE\n" + Draw.moves(20, 1)
            + "wrap 2 0 -> UOE\n");
    }

    private static void worlds() {
        for (int sign = 0; sign < 4; sign++) {
            StringBuilder all = new StringBuilder(Draw.lines(2, 0));
            all.append("spot 0 ").append(sign).append(" 0 1 -> 0\n");
            for (int things = 1; things <= 3; things++) {
                for (int bit = 0; bit < 14; bit++) {
                    all.append("holds false ").append(things).append(' ').append(1 << bit).append(" -> ");
                    all.append(isOf(bit, sign, things)).append('\n');
                    all.append("holds false ").append(things).append(' ').append(16383 - (1 << bit)).append(" -> ");
                    all.append(sign > 1 && things > 1 || !isOf(bit, sign, things)).append('\n');
                }
            }
            Calls.script("which bits of which worlds say sign " + sign, all.toString());
        }
        Calls.each("a world has 1 to 3 things", "start -> ok\n", Draw.outside(0, 4), """
            holds false N 0 -> IAE
            holds true N 0 -> IAE
            holds false 1 0 -> true
            holds false 3 0 -> true
            """);
    }

    private static boolean isOf(int bit, int sign, int things) {
        if (sign < 2) {
            return bit == sign;
        }
        if (sign == 2) {
            return bit >= 2 && bit - 2 < things && bit < 5;
        }
        return bit >= 5 && (bit - 5) / 3 < things && (bit - 5) % 3 < things;
    }

    private static void holds() {
        Calls.each("an area holds: an empty one does, an empty cut in it does not, in worlds of any size", "",
            List.of("1", "2", "3"), """
            holds false N 0 -> true
            holds false N 16383 -> true
            cut 0 -> 1
            holds false N 0 -> false
            holds false N 16383 -> false
            cut 1 -> 2
            holds false N 0 -> true
            holds false N 16383 -> true
            """);
        Calls.script("there are things for the lines: for six of them, with nothing hooked", Draw.lines(6, 0) + """
            holds false 1 0 -> true
            holds false 3 0 -> true
            """);
        Calls.script("with which all its spots hold: not for one thing each", """
            line 0 -> 0
            spot 0 2 0 0 -> 0
            spot 0 3 0 0 -> 1
            holds false 3 8196 -> false
            holds false 3 8204 -> false
            holds false 3 8208 -> true
            """);
        Calls.script("and none of its cuts does: the last of them", Draw.row(12)
            + Draw.spotsFrom(1, 12).replace("12 0 0 0", "12 1 0 0") + """
            holds false 1 0 -> true
            holds false 1 1 -> false
            holds false 1 2 -> false
            """);
        Calls.script("for some things of the lines whose outer areas it is in: the last things of the last line", """
            line 0 -> 0
            cut 0 -> 1
            line 1 -> 1
            cut 1 -> 2
            spot 2 3 0 1 -> 0
            holds false 3 14336 -> true
            holds false 3 6144 -> false
            """);
        Calls.script("a sheet holds if its area 0 does: twelve deep", Draw.chain(12) + """
            holds false 1 0 -> true
            spot 12 0 0 0 -> 0
            holds false 1 0 -> false
            holds false 1 1 -> true
            spot 11 1 0 0 -> 1
            holds false 1 0 -> true
            holds false 1 1 -> true
            holds false 1 2 -> false
            holds false 1 3 -> true
            """);
    }

    private static List<String> with(List<String> values, String... more) {
        List<String> all = new ArrayList<>(values);
        all.addAll(List.of(more));
        return all;
    }
}
