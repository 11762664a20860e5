import java.util.List;

/** Calls that many scripts begin with, and numbers that there never are. */
final class Draw {
    static final String MOST = Integer.toString(Integer.MAX_VALUE);
    static final String LEAST = Integer.toString(Integer.MIN_VALUE);

    private Draw() {
    }

    /** Cuts 1, 2 and so on, each in the one before it, the first in the sheet: cut n has the depth n. */
    static String chain(int cuts) {
        StringBuilder all = new StringBuilder();
        for (int cut = 1; cut <= cuts; cut++) {
            all.append("cut ").append(cut - 1).append(" -> ").append(cut).append('\n');
        }
        return all.toString();
    }

    /** Cuts 1, 2 and so on, all in the sheet. */
    static String row(int cuts) {
        StringBuilder all = new StringBuilder();
        for (int cut = 1; cut <= cuts; cut++) {
            all.append("cut 0 -> ").append(cut).append('\n');
        }
        return all.toString();
    }

    /** Lines 0, 1 and so on, each with its own outer area: from, the next one, and so on. */
    static String linesFrom(int from, int lines) {
        StringBuilder all = new StringBuilder();
        for (int line = 0; line < lines; line++) {
            all.append("line ").append(from + line).append(" -> ").append(line).append('\n');
        }
        return all.toString();
    }

    /** Spots 0, 1 and so on, of sign 0, each in its own area: from, the next one, and so on. */
    static String spotsFrom(int from, int spots) {
        StringBuilder all = new StringBuilder();
        for (int spot = 0; spot < spots; spot++) {
            all.append("spot ").append(from + spot).append(" 0 0 0 -> ").append(spot).append('\n');
        }
        return all.toString();
    }

    static String lines(int lines, int area) {
        return linesFrom(0, lines).replaceAll("line [0-9]+", "line " + area);
    }

    static String spots(int spots, int area) {
        return spotsFrom(0, spots).replaceAll("spot [0-9]+", "spot " + area);
    }

    /** An even number of moves, the first ones, after which all is as before; the cut is the least free number. */
    static String moves(int moves, int cut) {
        StringBuilder all = new StringBuilder();
        for (int made = 2; made <= moves; made += 2) {
            all.append("wrap 2 0 -> ").append(cut).append("\nunwrap ").append(cut).append(" -> ").append(made);
            all.append('\n');
        }
        return all.toString();
    }

    /** Numbers just outside of the limits, and far outside of them. */
    static List<String> outside(int tooSmall, int tooLarge) {
        return List.of(Integer.toString(tooSmall), Integer.toString(tooLarge), MOST, LEAST);
    }
}
