/** Promises 14 to 16 and 19: depth, read, token, count. */
public final class ReadTest {
    public static void main(String[] args) {
        depth();
        read();
        token();
        count();
        Calls.end();
    }

    private static void depth() {
        Calls.script("promise 14: depth", """
            cut 0 -> 1
            cut 1 -> 2
            cut 2 -> 3
            cut 1 -> 4
            cut 0 -> 5
            depth 0 -> 0
            depth 1 -> 1
            depth 2 -> 2
            depth 3 -> 3
            depth 4 -> 2
            depth 5 -> 1
            depth 6 -> IAE
            depth 13 -> IAE
            depth -1 -> IAE
            depth 2147483647 -> IAE
            start -> ok
            wrap 1 1 -> 6
            depth 3 -> 5
            unwrap 6 -> 2
            depth 3 -> 3
            erase 1 5 -> 3
            depth 5 -> IAE
            """);
    }

    private static void read() {
        Calls.script("promise 15: lines, spots, cuts, each by their numbers", """
            cut 0 -> 1
            spot 0 1 0 0 -> 0
            cut 0 -> 2
            line 2 -> 0
            line 0 -> 1
            cut 1 -> 3
            spot 3 3 1 1 -> 1
            spot 0 3 1 1 -> 2
            line 0 -> 2
            spot 2 3 0 2 -> 3
            spot 1 0 0 0 -> 4
            spot 0 2 2 2 -> 5
            tokens 0 -> 101 102 11 13 101 101 12 102 1 10 1 13 101 101 2 2 1 100 13 100 102 2
            tokens 1 -> 10 1 13 101 101 2
            tokens 2 -> 100 13 100 102
            tokens 3 -> 13 101 101
            tokens 4 -> IAE
            tokens -1 -> IAE
            tokens 13 -> IAE
            read 0 -> 22
            read 1 -> 6
            """);
    }

    private static void token() {
        Calls.script("promise 16: as it was read then", """
            token 0 -> IOOBE
            line 0 -> 0
            spot 0 2 0 0 -> 0
            token 0 -> IOOBE
            read 0 -> 3
            cut 0 -> 1
            spot 1 1 0 0 -> 1
            token 0 -> 100
            token 1 -> 12
            token 2 -> 100
            token 3 -> IOOBE
            token -1 -> IOOBE
            token 2147483647 -> IOOBE
            token -2147483648 -> IOOBE
            read 9 -> IAE
            token 1 -> 12
            start -> ok
            erase 0 0 -> 1
            copy 1 1 0 -> 2
            uncopy 1 2 -> 3
            token 1 -> 12
            read 1 -> 1
            token 0 -> 11
            token 1 -> IOOBE
            back -> 2
            token 0 -> 11
            read 2 -> 1
            erase 1 2 -> 3
            token 0 -> 11
            """);
    }

    private static void count() {
        Calls.script("promise 19: cuts, spots, lines, moves", """
            cut 0 -> 1
            cut 0 -> 2
            cut 0 -> 3
            line 0 -> 0
            line 0 -> 1
            spot 0 0 0 0 -> 0
            count 0 -> 3
            count 1 -> 1
            count 2 -> 2
            count 3 -> 0
            count 4 -> IAE
            count -1 -> IAE
            count 2147483647 -> IAE
            start -> ok
            count 3 -> 0
            erase 1 1 -> 1
            count 0 -> 2
            count 3 -> 1
            spot 2 1 0 0 -> 1
            count 1 -> 2
            count 3 -> 2
            erase 2 0 -> 3
            count 2 -> 1
            erase 0 5 -> IAE
            erase 0 1 -> ISE
            count 3 -> 3
            back -> 2
            back -> 1
            back -> 0
            count 0 -> 3
            count 1 -> 1
            count 2 -> 2
            count 3 -> 0
            """);
    }
}
