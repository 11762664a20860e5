/** Promises 6 to 13: erase, copy, uncopy, wrap, unwrap, join, sever, back. */
public final class MoveTest {
    public static void main(String[] args) {
        beforeStart();
        erase();
        copy();
        copyNumbers();
        copyRoom();
        uncopySpots();
        uncopyCuts();
        wrap();
        wrapRoom();
        unwrap();
        join();
        sever();
        back();
        twentyMoves();
        Calls.end();
    }

    private static void beforeStart() {
        Calls.script("promises 6 to 13: not before start, but wrong arguments come first", """
            cut 0 -> 1
            cut 1 -> 2
            line 1 -> 0
            line 0 -> 1
            line 0 -> 2
            spot 0 0 0 0 -> 0
            spot 0 0 0 0 -> 1
            erase 0 0 -> ISE
            erase 0 2 -> IAE
            copy 0 0 0 -> ISE
            copy 0 2 0 -> IAE
            uncopy 0 0 -> ISE
            uncopy 0 2 -> IAE
            wrap 2 0 -> ISE
            wrap 0 2 -> IAE
            unwrap 1 -> ISE
            unwrap 3 -> IAE
            join 0 1 -> ISE
            join 0 3 -> IAE
            sever 1 0 -> ISE
            sever 3 0 -> IAE
            back -> ISE
            count 0 -> 2
            count 1 -> 2
            count 2 -> 3
            count 3 -> 0
            """);
    }

    private static void erase() {
        Calls.script("promise 6: what lies in areas of even depth", """
            cut 0 -> 1
            cut 1 -> 2
            cut 2 -> 3
            line 0 -> 0
            line 1 -> 1
            line 2 -> 2
            line 0 -> 3
            spot 0 2 0 0 -> 0
            spot 1 0 0 0 -> 1
            spot 2 1 0 0 -> 2
            start -> ok
            erase 0 1 -> ISE
            erase 1 2 -> ISE
            erase 2 1 -> ISE
            erase 2 0 -> ISE
            erase 0 3 -> IAE
            erase 0 -1 -> IAE
            erase 0 12 -> IAE
            erase 1 0 -> IAE
            erase 1 4 -> IAE
            erase 1 13 -> IAE
            erase 2 4 -> IAE
            erase 2 6 -> IAE
            erase 3 0 -> IAE
            erase -1 0 -> IAE
            count 3 -> 0
            erase 2 3 -> 1
            erase 0 2 -> 2
            erase 1 3 -> 3
            erase 2 2 -> 4
            tokens 0 -> 100 12 100 1 101 10 1 2 2
            erase 0 0 -> 5
            erase 2 0 -> 6
            tokens 0 -> 1 101 10 1 2 2
            refutes 2 -> -1
            """);
        Calls.script("promise 6: a cut goes with all in it and its inner lines, and the numbers are free", """
            line 0 -> 0
            cut 0 -> 1
            cut 0 -> 2
            cut 1 -> 3
            cut 3 -> 4
            line 1 -> 1
            line 4 -> 2
            spot 1 0 0 0 -> 0
            spot 0 1 0 0 -> 1
            spot 4 3 0 2 -> 2
            spot 2 2 0 0 -> 3
            start -> ok
            erase 1 1 -> 1
            tokens 0 -> 100 11 1 12 100 2
            count 0 -> 1
            count 1 -> 2
            count 2 -> 1
            erase 0 0 -> IAE
            erase 2 1 -> IAE
            cut 2 -> 1
            spot 2 0 0 0 -> 0
            line 2 -> 1
            tokens 2 -> 101 10 12 100 1 2
            erase 2 0 -> ISE
            refutes 2 -> -1
            """);
        Calls.script("promise 6: a spot that went hooks nothing any more", """
            line 0 -> 0
            line 0 -> 1
            spot 0 3 0 1 -> 0
            start -> ok
            erase 2 0 -> ISE
            erase 2 1 -> ISE
            erase 0 0 -> 1
            erase 2 1 -> 2
            erase 2 0 -> 3
            """);
    }

    private static void copy() {
        Calls.script("promise 7: where a part may come", """
            cut 0 -> 1
            cut 1 -> 2
            cut 2 -> 3
            cut 0 -> 4
            line 1 -> 0
            spot 1 2 0 0 -> 0
            spot 0 1 0 0 -> 1
            start -> ok
            copy 0 0 0 -> ISE
            copy 0 0 4 -> ISE
            copy 1 2 0 -> ISE
            copy 1 2 4 -> ISE
            copy 1 2 2 -> ISE
            copy 1 2 3 -> ISE
            copy 1 1 3 -> ISE
            copy 0 2 0 -> IAE
            copy 1 5 0 -> IAE
            copy 1 0 0 -> IAE
            copy 0 0 5 -> IAE
            copy 0 0 -1 -> IAE
            copy 2 0 1 -> IAE
            copy 3 0 1 -> IAE
            copy -1 0 1 -> IAE
            count 3 -> 0
            copy 0 0 1 -> 2
            copy 0 0 3 -> 3
            copy 0 1 3 -> 4
            copy 1 2 1 -> 5
            copy 1 4 2 -> 7
            count 3 -> 5
            tokens 0 -> 11 1 100 12 100 12 100 1 1 12 100 11 2 1 2 2 1 1 12 100 11 2 2 2 1 2
            refutes 2 -> -1
            """);
    }

    private static void copyNumbers() {
        Calls.script("promise 7: new inner lines, other lines the same; each cut whole before the next", """
            line 0 -> 0
            cut 0 -> 1
            cut 1 -> 2
            cut 1 -> 3
            cut 2 -> 4
            line 2 -> 1
            line 1 -> 2
            spot 4 3 1 2 -> 0
            spot 1 3 0 2 -> 1
            spot 3 0 0 0 -> 2
            spot 2 2 1 0 -> 3
            start -> ok
            copy 1 1 0 -> 5
            tokens 5 -> 103 13 100 103 1 104 12 104 1 13 104 103 2 2 1 10 2
            tokens 6 -> 104 12 104 1 13 104 103 2
            tokens 7 -> 13 104 103
            tokens 8 -> 10
            tokens 1 -> 102 13 100 102 1 101 12 101 1 13 101 102 2 2 1 10 2
            count 0 -> 8
            count 1 -> 8
            count 2 -> 5
            depth 7 -> 3
            erase 0 6 -> ISE
            erase 0 5 -> 2
            tokens 6 -> 104 1 13 104 103 2
            refutes 2 -> -1
            uncopy 1 5 -> ISE
            back -> 1
            uncopy 1 1 -> 2
            tokens 0 -> 100 1 103 13 100 103 1 104 12 104 1 13 104 103 2 2 1 10 2 2
            """);
        Calls.script("promise 7: the least numbers that are free", """
            cut 0 -> 1
            cut 0 -> 2
            cut 2 -> 3
            cut 0 -> 4
            line 0 -> 0
            line 2 -> 1
            line 3 -> 2
            spot 0 0 0 0 -> 0
            spot 2 2 1 0 -> 1
            spot 3 3 2 1 -> 2
            start -> ok
            erase 1 1 -> 1
            erase 2 0 -> 2
            erase 0 0 -> 3
            copy 1 2 0 -> 1
            tokens 1 -> 100 12 100 1 103 13 103 100 2
            tokens 5 -> 103 13 103 100
            copy 0 1 3 -> 4
            tokens 3 -> 102 13 102 101 12 101
            """);
        Calls.script("promise 7: what an earlier copy put in the place of a line is forgotten", """
            cut 0 -> 1
            line 1 -> 0
            spot 1 2 0 0 -> 0
            start -> ok
            copy 1 1 0 -> 2
            tokens 2 -> 101 12 101
            copy 0 0 1 -> 2
            tokens 1 -> 100 12 100 12 100
            """);
        Calls.script("promise 7: a cut in one of a greater number comes along", """
            cut 0 -> 1
            spot 1 0 0 0 -> 0
            start -> ok
            wrap 1 1 -> 2
            copy 1 2 0 -> 4
            tokens 4 -> 1 1 10 2 2
            tokens 6 -> 10
            """);
    }

    private static void copyRoom() {
        Calls.script("promise 7: too few cuts", """
            cut 0 -> 1
            cut 1 -> 2
            cut 2 -> 3
            cut 2 -> 4
            cut 0 -> 5
            cut 0 -> 6
            cut 0 -> 7
            cut 0 -> 8
            cut 0 -> 9
            start -> ok
            copy 1 1 0 -> UOE
            copy 1 1 1 -> ISE
            count 0 -> 9
            count 3 -> 0
            copy 1 2 1 -> 10
            count 0 -> 12
            copy 1 5 0 -> UOE
            copy 1 9 0 -> UOE
            """);
        Calls.script("promise 7: too few lines", """
            cut 0 -> 1
            cut 1 -> 2
            line 2 -> 0
            line 1 -> 1
            line 1 -> 2
            line 0 -> 3
            start -> ok
            copy 1 1 0 -> UOE
            copy 1 2 1 -> 3
            copy 1 2 1 -> 4
            copy 1 2 1 -> UOE
            count 2 -> 6
            count 0 -> 4
            erase 2 3 -> 3
            copy 1 2 3 -> 5
            tokens 3 -> 104 1 103 2
            """);
        Calls.script("promise 7: too few spots", """
            cut 0 -> 1
            cut 1 -> 2
            spot 1 0 0 0 -> 0
            spot 2 0 0 0 -> 1
            spot 2 0 0 0 -> 2
            spot 2 0 0 0 -> 3
            spot 0 0 0 0 -> 4
            spot 0 0 0 0 -> 5
            spot 0 0 0 0 -> 6
            spot 0 0 0 0 -> 7
            spot 0 0 0 0 -> 8
            start -> ok
            copy 1 1 0 -> UOE
            copy 1 2 1 -> 3
            count 1 -> 12
            copy 0 0 1 -> UOE
            copy 0 0 0 -> ISE
            count 0 -> 3
            count 3 -> 1
            erase 0 8 -> 2
            copy 0 0 2 -> 8
            copy 0 0 2 -> UOE
            """);
    }

    private static void uncopySpots() {
        Calls.script("promise 8: spots", """
            cut 0 -> 1
            cut 1 -> 2
            cut 0 -> 3
            line 0 -> 0
            line 0 -> 1
            line 1 -> 2
            spot 0 3 0 1 -> 0
            spot 0 3 1 0 -> 1
            spot 2 3 0 1 -> 2
            spot 2 3 0 0 -> 3
            spot 1 0 0 0 -> 4
            spot 3 0 0 0 -> 5
            spot 2 0 0 0 -> 6
            spot 0 2 0 0 -> 7
            spot 1 2 1 0 -> 8
            spot 2 2 2 0 -> 9
            spot 2 1 0 0 -> 10
            start -> ok
            uncopy 0 0 -> ISE
            uncopy 0 1 -> ISE
            uncopy 0 3 -> ISE
            uncopy 0 4 -> ISE
            uncopy 0 5 -> ISE
            uncopy 0 8 -> ISE
            uncopy 0 9 -> ISE
            uncopy 0 10 -> ISE
            uncopy 0 11 -> IAE
            uncopy 0 -1 -> IAE
            uncopy 2 0 -> IAE
            uncopy -1 0 -> IAE
            uncopy 3 0 -> IAE
            count 3 -> 0
            uncopy 0 2 -> 1
            uncopy 0 6 -> 2
            uncopy 0 2 -> IAE
            count 1 -> 9
            refutes 2 -> -1
            """);
        Calls.script("promise 8: in the same area, either may go, the last one not", """
            line 0 -> 0
            spot 0 2 0 0 -> 0
            spot 0 2 0 9 -> 1
            spot 0 2 0 -7 -> 2
            start -> ok
            uncopy 0 0 -> 1
            uncopy 0 2 -> 2
            uncopy 0 1 -> ISE
            tokens 0 -> 100 12 100
            """);
    }

    private static void uncopyCuts() {
        Calls.script("promise 8: inner lines by the order in which they are read, others by their numbers", """
            line 0 -> 0
            cut 0 -> 1
            line 1 -> 1
            line 1 -> 2
            spot 1 3 2 0 -> 0
            cut 0 -> 2
            line 2 -> 3
            line 2 -> 4
            spot 2 3 4 0 -> 1
            start -> ok
            uncopy 1 0 -> IAE
            uncopy 1 3 -> IAE
            uncopy 1 2 -> 1
            count 2 -> 3
            count 1 -> 1
            back -> 0
            uncopy 1 1 -> 1
            tokens 0 -> 100 1 103 104 13 104 100 2
            uncopy 1 2 -> ISE
            """);
        Calls.script("promise 8: other lines are told apart by their numbers", """
            line 0 -> 0
            line 0 -> 1
            cut 0 -> 1
            cut 0 -> 2
            spot 1 2 0 0 -> 0
            spot 2 2 1 0 -> 1
            start -> ok
            uncopy 1 1 -> ISE
            uncopy 1 2 -> ISE
            """);
        Calls.script("promise 8: inner lines of deeper areas", """
            cut 0 -> 1
            cut 1 -> 2
            line 2 -> 0
            line 1 -> 1
            spot 2 3 0 1 -> 0
            cut 0 -> 3
            cut 3 -> 4
            line 3 -> 2
            line 4 -> 3
            spot 4 3 3 2 -> 1
            cut 0 -> 5
            cut 5 -> 6
            line 5 -> 4
            line 6 -> 5
            spot 6 3 4 5 -> 2
            start -> ok
            uncopy 1 5 -> ISE
            uncopy 1 1 -> 1
            uncopy 1 3 -> ISE
            back -> 0
            uncopy 1 3 -> 1
            count 2 -> 4
            """);
        Calls.script("promise 8: the other lies in the same area or one that is outside of it", """
            cut 0 -> 1
            spot 1 0 0 0 -> 0
            cut 0 -> 2
            cut 2 -> 3
            cut 3 -> 4
            spot 4 0 0 0 -> 1
            cut 0 -> 5
            cut 5 -> 6
            spot 6 1 0 0 -> 2
            cut 2 -> 7
            spot 7 1 0 0 -> 3
            start -> ok
            uncopy 1 1 -> ISE
            uncopy 1 6 -> ISE
            uncopy 1 7 -> ISE
            uncopy 1 4 -> 1
            tokens 2 -> 1 2 1 11 2
            uncopy 1 3 -> ISE
            refutes 1 -> -1
            """);
        Calls.script("promise 8: the order by numbers counts, and so does where cuts end", """
            cut 0 -> 1
            cut 0 -> 2
            spot 1 0 0 0 -> 0
            spot 1 1 0 0 -> 1
            spot 2 1 0 0 -> 2
            spot 2 0 0 0 -> 3
            cut 0 -> 3
            cut 3 -> 4
            cut 4 -> 5
            cut 0 -> 6
            cut 6 -> 7
            cut 6 -> 8
            cut 0 -> 9
            line 9 -> 0
            cut 0 -> 10
            start -> ok
            uncopy 1 1 -> ISE
            uncopy 1 2 -> ISE
            uncopy 1 3 -> ISE
            uncopy 1 6 -> ISE
            uncopy 1 9 -> ISE
            uncopy 1 10 -> ISE
            uncopy 1 7 -> 1
            uncopy 1 8 -> 2
            uncopy 1 6 -> 3
            tokens 0 -> 1 10 11 2 1 11 10 2 1 1 1 2 2 2 1 100 2 1 2
            """);
    }

    private static void wrap() {
        Calls.script("promise 9: a spot, a cut, nothing, in any depth", """
            line 0 -> 0
            cut 0 -> 1
            spot 1 2 0 0 -> 0
            spot 1 0 0 0 -> 1
            line 1 -> 1
            start -> ok
            wrap 0 0 -> 2
            tokens 0 -> 100 1 101 10 1 1 12 100 2 2 2
            tokens 3 -> 12 100
            wrap 1 1 -> 4
            tokens 0 -> 100 1 1 1 101 10 1 1 12 100 2 2 2 2 2
            tokens 4 -> 1 1 101 10 1 1 12 100 2 2 2 2
            tokens 5 -> 1 101 10 1 1 12 100 2 2 2
            depth 1 -> 3
            wrap 2 1 -> 6
            tokens 6 -> 1 2
            tokens 7 -> none
            wrap 2 0 -> 8
            count 0 -> 9
            count 3 -> 4
            wrap 0 2 -> IAE
            wrap 0 -1 -> IAE
            wrap 1 0 -> IAE
            wrap 1 10 -> IAE
            wrap 2 10 -> IAE
            wrap 2 -1 -> IAE
            wrap 2 13 -> IAE
            wrap 3 0 -> IAE
            wrap -1 0 -> IAE
            refutes 2 -> -1
            wrap 2 9 -> 10
            wrap 2 0 -> UOE
            wrap 2 12 -> IAE
            count 0 -> 11
            """);
        Calls.script("promise 9: the outer cut has the lesser number", """
            cut 0 -> 1
            cut 0 -> 2
            cut 0 -> 3
            cut 0 -> 4
            spot 2 0 0 0 -> 0
            start -> ok
            erase 1 3 -> 1
            erase 1 1 -> 2
            wrap 1 2 -> 1
            tokens 1 -> 1 1 10 2 2
            tokens 3 -> 1 10 2
            depth 3 -> 2
            depth 2 -> 3
            """);
    }

    private static void wrapRoom() {
        StringBuilder ten = new StringBuilder();
        for (int cut = 1; cut <= 10; cut++) {
            ten.append("cut 0 -> ").append(cut).append('\n');
        }
        Calls.script("promise 9: two numbers are enough", ten + """
            start -> ok
            wrap 2 0 -> 11
            tokens 11 -> 1 2
            wrap 2 0 -> UOE
            erase 1 1 -> 2
            wrap 2 0 -> UOE
            wrap 1 2 -> UOE
            erase 1 3 -> 3
            wrap 1 2 -> 1
            tokens 1 -> 1 1 2 2
            """);
    }

    private static void unwrap() {
        Calls.script("promise 10: nothing but one cut, and no line", """
            cut 0 -> 1
            cut 1 -> 2
            cut 0 -> 3
            cut 3 -> 4
            cut 3 -> 5
            cut 0 -> 6
            cut 6 -> 7
            line 6 -> 0
            cut 0 -> 8
            cut 8 -> 9
            spot 8 0 0 0 -> 0
            cut 0 -> 10
            start -> ok
            unwrap 2 -> ISE
            unwrap 3 -> ISE
            unwrap 6 -> ISE
            unwrap 8 -> ISE
            unwrap 10 -> ISE
            unwrap 0 -> IAE
            unwrap 11 -> IAE
            unwrap 13 -> IAE
            unwrap -1 -> IAE
            count 3 -> 0
            unwrap 1 -> 1
            unwrap 1 -> IAE
            unwrap 2 -> IAE
            count 0 -> 8
            """);
        Calls.script("promise 10: what lay in the inner one comes out, its lines too", """
            cut 0 -> 1
            cut 1 -> 2
            cut 2 -> 3
            cut 3 -> 4
            line 3 -> 0
            line 4 -> 1
            cut 3 -> 5
            spot 3 2 0 0 -> 0
            spot 4 3 0 1 -> 1
            start -> ok
            unwrap 3 -> ISE
            unwrap 2 -> 1
            tokens 0 -> 1 100 12 100 1 101 13 100 101 2 1 2 2
            depth 4 -> 2
            depth 5 -> 2
            depth 2 -> IAE
            depth 3 -> IAE
            refutes 2 -> -1
            back -> 0
            unwrap 1 -> 1
            tokens 0 -> 1 100 12 100 1 101 13 100 101 2 1 2 2
            depth 3 -> 1
            depth 4 -> 2
            line 3 -> 2
            """);
        Calls.script("promise 10: the inner cut may have the lesser number", """
            cut 0 -> 1
            cut 0 -> 2
            spot 2 0 0 0 -> 0
            start -> ok
            erase 1 1 -> 1
            cut 2 -> 1
            copy 0 0 1 -> 1
            wrap 1 2 -> 3
            erase 1 3 -> 5
            back -> 4
            unwrap 3 -> 5
            unwrap 2 -> ISE
            uncopy 0 0 -> ISE
            wrap 2 1 -> 3
            cut 3 -> 5
            tokens 0 -> 1 10 1 10 1 1 2 1 2 2 2 2
            """);
        Calls.script("promise 10: an inner cut of the least number is found", """
            cut 0 -> 1
            cut 0 -> 2
            start -> ok
            erase 1 1 -> 1
            cut 2 -> 1
            wrap 2 1 -> 3
            unwrap 2 -> 4
            tokens 0 -> 1 1 2 2
            depth 1 -> IAE
            """);
    }

    private static void join() {
        Calls.script("promise 11: from an odd area, to a line of it or of one outside of it", """
            cut 0 -> 1
            cut 1 -> 2
            cut 2 -> 3
            cut 0 -> 4
            line 0 -> 0
            line 1 -> 1
            line 1 -> 2
            line 2 -> 3
            line 3 -> 4
            line 4 -> 5
            spot 1 3 1 2 -> 0
            spot 3 3 1 1 -> 1
            spot 3 3 4 1 -> 2
            start -> ok
            join 0 1 -> ISE
            join 3 0 -> ISE
            join 3 1 -> ISE
            join 1 3 -> ISE
            join 1 4 -> ISE
            join 1 5 -> ISE
            join 5 1 -> ISE
            join 1 1 -> IAE
            join 6 6 -> IAE
            join 1 6 -> IAE
            join 6 1 -> IAE
            join -1 0 -> IAE
            count 3 -> 0
            join 4 3 -> 1
            tokens 3 -> 13 101 101 13 103 101
            join 1 2 -> 2
            tokens 0 -> 100 1 102 13 102 102 1 103 1 13 102 102 13 103 102 2 2 2 1 105 2
            join 1 2 -> IAE
            join 2 0 -> 3
            tokens 0 -> 100 1 13 100 100 1 103 1 13 100 100 13 103 100 2 2 2 1 105 2
            join 5 0 -> 4
            count 2 -> 2
            refutes 2 -> -1
            """);
    }

    private static void sever() {
        Calls.script("promise 12: in an even area, in all spots there and deeper", """
            cut 0 -> 1
            cut 1 -> 2
            cut 2 -> 3
            cut 1 -> 4
            line 0 -> 0
            line 2 -> 1
            spot 0 2 0 0 -> 0
            spot 1 2 0 0 -> 1
            spot 2 3 0 1 -> 2
            spot 3 3 0 0 -> 3
            spot 4 2 0 0 -> 4
            start -> ok
            sever 0 1 -> ISE
            sever 0 3 -> ISE
            sever 1 0 -> ISE
            sever 1 4 -> ISE
            sever 1 3 -> ISE
            sever 2 0 -> IAE
            sever -1 0 -> IAE
            sever 0 5 -> IAE
            sever 0 -1 -> IAE
            count 3 -> 0
            sever 0 2 -> 2
            tokens 0 -> 100 12 100 1 12 100 1 101 102 13 102 101 1 13 102 102 2 2 1 12 100 2 2
            sever 1 2 -> 3
            tokens 2 -> 101 102 103 13 102 103 1 13 102 102 2
            sever 0 0 -> 4
            tokens 0 -> 100 104 12 104 1 12 104 1 101 102 103 13 102 103 1 13 102 102 2 2 1 12 104 2 2
            sever 0 4 -> 5
            tokens 4 -> 105 12 104
            refutes 2 -> -1
            sever 0 0 -> UOE
            sever 0 1 -> ISE
            count 2 -> 6
            count 3 -> 4
            erase 2 0 -> 5
            sever 4 4 -> 0
            tokens 4 -> 100 105 12 100
            """);
    }

    private static void back() {
        Calls.script("promise 13: each kind of move is taken back", """
            line 0 -> 0
            cut 0 -> 1
            cut 1 -> 2
            line 1 -> 1
            spot 0 2 0 0 -> 0
            spot 2 3 0 1 -> 1
            spot 0 2 0 0 -> 2
            back -> ISE
            start -> ok
            back -> ISE
            spot 1 0 0 0 -> 3
            back -> 0
            erase 0 0 -> 1
            back -> 0
            erase 1 1 -> 1
            back -> 0
            copy 1 1 0 -> 3
            back -> 0
            uncopy 0 2 -> 1
            back -> 0
            wrap 0 1 -> 3
            unwrap 3 -> 2
            back -> 1
            back -> 0
            join 1 0 -> 1
            back -> 0
            sever 0 2 -> 2
            back -> 0
            tokens 0 -> 100 12 100 12 100 1 101 1 13 100 101 2 2
            count 0 -> 2
            count 1 -> 3
            count 2 -> 2
            back -> ISE
            cut 1 -> 3
            line 1 -> 2
            back -> 1
            erase 0 0 -> 2
            back -> 1
            back -> 0
            back -> ISE
            """);
    }

    private static void twentyMoves() {
        StringBuilder twenty = new StringBuilder();
        for (int i = 0; i < 10; i++) {
            twenty.append("wrap 0 0 -> 3\nunwrap 3 -> ").append(2 * i + 2).append('\n');
        }
        Calls.script("all moves: at most 20 at a time", """
            cut 0 -> 1
            cut 1 -> 2
            line 1 -> 0
            line 1 -> 1
            spot 0 0 0 0 -> 0
            spot 0 0 0 0 -> 1
            start -> ok
            """ + twenty + """
            count 3 -> 20
            cut 1 -> UOE
            line 1 -> UOE
            spot 1 0 0 0 -> UOE
            erase 0 0 -> UOE
            copy 0 0 0 -> UOE
            uncopy 0 0 -> UOE
            wrap 2 0 -> UOE
            unwrap 1 -> ISE
            join 0 1 -> UOE
            sever 0 2 -> UOE
            cut 0 -> ISE
            cut 9 -> IAE
            erase 0 9 -> IAE
            erase 1 2 -> ISE
            start -> ISE
            count 3 -> 20
            count 0 -> 2
            back -> 19
            wrap 0 1 -> 5
            back -> 19
            back -> 18
            unwrap 3 -> IAE
            wrap 0 0 -> 3
            wrap 2 3 -> 5
            count 3 -> 20
            unwrap 5 -> UOE
            tokens 0 -> 10 1 100 101 1 2 2 1 1 10 2 1 1 2 2 2
            refutes 2 -> -1
            holds true 1 0 -> false
            """);
    }
}
