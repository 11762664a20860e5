import java.util.ArrayList;
import java.util.HashMap;
import java.util.List;
import java.util.Map;
import java.util.TreeMap;

/**
 * The document's face once more, built another way, to compare answers with: sheets are objects that point at each
 * other, a move is taken back by doing all calls before it again, and every world is tried line by line.
 */
final class Model {
    private static final class Area {
        final int number;
        Area outer;

        Area(int number, Area outer) {
            this.number = number;
            this.outer = outer;
        }

        boolean isOrIsIn(Area other) {
            return this == other || outer != null && outer.isOrIsIn(other);
        }

        int depth() {
            return outer == null ? 0 : 1 + outer.depth();
        }
    }

    private static final class Line {
        final int number;
        Area outer;

        Line(int number, Area outer) {
            this.number = number;
            this.outer = outer;
        }
    }

    private static final class Spot {
        final int number;
        Area area;
        final int sign;
        final List<Line> lines;

        Spot(int number, Area area, int sign, List<Line> lines) {
            this.number = number;
            this.area = area;
            this.sign = sign;
            this.lines = lines;
        }
    }

    private final Area top = new Area(0, null);
    private final TreeMap<Integer, Area> cuts = new TreeMap<>();
    private final TreeMap<Integer, Line> lines = new TreeMap<>();
    private final TreeMap<Integer, Spot> spots = new TreeMap<>();
    private final List<String> drawn = new ArrayList<>();
    private final List<String> moved = new ArrayList<>();
    private List<Integer> tokens = new ArrayList<>();
    private Model first;

    int cut(int area) {
        Area a = area(area);
        insert(a, cuts.size() < 12, "cut " + area);
        return newCut(a).number;
    }

    int line(int area) {
        Area a = area(area);
        insert(a, lines.size() < 6, "line " + area);
        return newLine(a).number;
    }

    int spot(int area, int sign, int one, int two) {
        Area a = area(area);
        if (sign < 0 || sign > 3) {
            throw new IllegalArgumentException();
        }
        List<Line> hooked = new ArrayList<>();
        if (sign >= 2) {
            hooked.add(lineFor(one, a));
        }
        if (sign == 3) {
            hooked.add(lineFor(two, a));
        }
        insert(a, spots.size() < 12, "spot " + area + " " + sign + " " + one + " " + two);
        return newSpot(a, sign, hooked).number;
    }

    void start() {
        state(first == null);
        first = replayed(drawn, List.of());
    }

    int erase(int kind, int number) {
        Area a = kind == 2 ? lineAt(number).outer : partArea(kind, number);
        state(a.depth() % 2 == 0);
        if (kind == 2) {
            for (Spot s : spots.values()) {
                state(!s.lines.contains(lines.get(number)));
            }
        }
        move(true, "erase " + kind + " " + number);
        if (kind == 2) {
            lines.remove(number);
        } else {
            removePart(kind, number);
        }
        return moved.size();
    }

    int copy(int kind, int number, int area) {
        Area from = partArea(kind, number);
        Area to = area(area);
        state(to.isOrIsIn(from));
        if (kind == 0) {
            move(spots.size() < 12, "copy 0 " + number + " " + area);
            Spot s = spots.get(number);
            return newSpot(to, s.sign, new ArrayList<>(s.lines)).number;
        }
        Area cut = cuts.get(number);
        state(!to.isOrIsIn(cut));
        long c = cuts.values().stream().filter(x -> x.isOrIsIn(cut)).count();
        long l = lines.values().stream().filter(x -> x.outer.isOrIsIn(cut)).count();
        long s = spots.values().stream().filter(x -> x.area.isOrIsIn(cut)).count();
        move(cuts.size() + c <= 12 && lines.size() + l <= 6 && spots.size() + s <= 12,
                "copy 1 " + number + " " + area);
        return copyCut(cut, to, new HashMap<>()).number;
    }

    int uncopy(int kind, int number) {
        Area a = partArea(kind, number);
        boolean found = false;
        for (int other = 0; other <= 12; other++) {
            boolean there = kind == 0 ? spots.containsKey(other) : cuts.containsKey(other);
            if (there && other != number && a.isOrIsIn(partArea(kind, other))) {
                found |= partReading(kind, number).equals(partReading(kind, other));
            }
        }
        state(found);
        move(true, "uncopy " + kind + " " + number);
        removePart(kind, number);
        return moved.size();
    }

    int wrap(int kind, int number) {
        Area a = kind == 2 ? area(number) : partArea(kind, number);
        move(cuts.size() <= 10, "wrap " + kind + " " + number);
        Area outer = newCut(a);
        Area inner = newCut(outer);
        if (kind == 0) {
            spots.get(number).area = inner;
        }
        if (kind == 1) {
            cuts.get(number).outer = inner;
        }
        return outer.number;
    }

    int unwrap(int number) {
        partArea(1, number);
        Area outer = cuts.get(number);
        Area inner = null;
        for (Area c : cuts.values()) {
            if (c.outer == outer) {
                state(inner == null);
                inner = c;
            }
        }
        state(inner != null);
        for (Spot s : spots.values()) {
            state(s.area != outer);
        }
        for (Line l : lines.values()) {
            state(l.outer != outer);
        }
        move(true, "unwrap " + number);
        cuts.remove(outer.number);
        cuts.remove(inner.number);
        for (Area c : cuts.values()) {
            c.outer = c.outer == inner ? outer.outer : c.outer;
        }
        for (Spot s : spots.values()) {
            s.area = s.area == inner ? outer.outer : s.area;
        }
        for (Line l : lines.values()) {
            l.outer = l.outer == inner ? outer.outer : l.outer;
        }
        return moved.size();
    }

    int join(int one, int two) {
        Line goes = lineAt(one);
        Line stays = lineAt(two);
        if (goes == stays) {
            throw new IllegalArgumentException();
        }
        state(goes.outer.depth() % 2 == 1 && goes.outer.isOrIsIn(stays.outer));
        move(true, "join " + one + " " + two);
        lines.remove(one);
        for (Spot s : spots.values()) {
            s.lines.replaceAll(l -> l == goes ? stays : l);
        }
        return moved.size();
    }

    int sever(int number, int area) {
        Line old = lineAt(number);
        Area a = area(area);
        state(a.depth() % 2 == 0 && a.isOrIsIn(old.outer));
        move(lines.size() < 6, "sever " + number + " " + area);
        Line made = newLine(a);
        for (Spot s : spots.values()) {
            if (s.area.isOrIsIn(a)) {
                s.lines.replaceAll(l -> l == old ? made : l);
            }
        }
        return made.number;
    }

    int back() {
        state(!moved.isEmpty());
        moved.remove(moved.size() - 1);
        Model again = replayed(drawn, moved);
        cuts.clear();
        lines.clear();
        spots.clear();
        cuts.putAll(again.cuts);
        lines.putAll(again.lines);
        spots.putAll(again.spots);
        for (Area c : cuts.values()) {
            c.outer = c.outer == again.top ? top : c.outer;
        }
        for (Line l : lines.values()) {
            l.outer = l.outer == again.top ? top : l.outer;
        }
        for (Spot s : spots.values()) {
            s.area = s.area == again.top ? top : s.area;
        }
        return moved.size();
    }

    int depth(int area) {
        return area(area).depth();
    }

    int read(int area) {
        tokens = reading(area(area));
        return tokens.size();
    }

    int token(int i) {
        return tokens.get(i);
    }

    boolean holds(boolean ofFirst, int things, int bits) {
        if (things < 1 || things > 3 || bits < 0 || bits >= 16384) {
            throw new IllegalArgumentException();
        }
        state(!ofFirst || first != null);
        Model asked = ofFirst ? first : this;
        return asked.areaHolds(asked.top, 0, new HashMap<>(), things, bits);
    }

    int refutes(int things) {
        if (things != 1 && things != 2) {
            throw new IllegalArgumentException();
        }
        state(first != null);
        for (int bits = 0; bits < 16384; bits++) {
            boolean ofOthers = (bits & ~(things == 1 ? 0b100111 : 0b1101101111)) != 0;
            if (!ofOthers && holds(true, things, bits) && !holds(false, things, bits)) {
                return bits;
            }
        }
        return -1;
    }

    int count(int which) {
        return switch (which) {
            case 0 -> cuts.size();
            case 1 -> spots.size();
            case 2 -> lines.size();
            case 3 -> moved.size();
            default -> throw new IllegalArgumentException();
        };
    }

    /** The numbers that are taken: kind 0 of spots, 1 of cuts, 2 of lines. */
    List<Integer> taken(int kind) {
        return List.copyOf((kind == 0 ? spots : kind == 1 ? cuts : lines).keySet());
    }

    private static void state(boolean fits) {
        if (!fits) {
            throw new IllegalStateException();
        }
    }

    private void insert(Area a, boolean room, String call) {
        if (first != null) {
            state(a.depth() % 2 == 1);
            move(room, call);
            return;
        }
        if (!room) {
            throw new UnsupportedOperationException();
        }
        drawn.add(call);
    }

    private void move(boolean room, String call) {
        state(first != null);
        if (!room || moved.size() == 20) {
            throw new UnsupportedOperationException();
        }
        moved.add(call);
    }

    private static Model replayed(List<String> drawn, List<String> moved) {
        Model again = new Model();
        drawn.forEach(call -> Calls.answer(again, call));
        if (!moved.isEmpty()) {
            again.start();
        }
        moved.forEach(call -> Calls.answer(again, call));
        return again;
    }

    private Area area(int number) {
        Area a = number == 0 ? top : cuts.get(number);
        if (a == null) {
            throw new IllegalArgumentException();
        }
        return a;
    }

    private Line lineAt(int number) {
        Line l = lines.get(number);
        if (l == null) {
            throw new IllegalArgumentException();
        }
        return l;
    }

    private Line lineFor(int number, Area a) {
        Line l = lineAt(number);
        if (!a.isOrIsIn(l.outer)) {
            throw new IllegalArgumentException();
        }
        return l;
    }

    private Area partArea(int kind, int number) {
        if (kind == 0 && spots.containsKey(number)) {
            return spots.get(number).area;
        }
        if (kind == 1 && cuts.containsKey(number)) {
            return cuts.get(number).outer;
        }
        throw new IllegalArgumentException();
    }

    private static int leastFree(int from, Map<Integer, ?> taken) {
        int number = from;
        while (taken.containsKey(number)) {
            number++;
        }
        return number;
    }

    private Area newCut(Area a) {
        Area made = new Area(leastFree(1, cuts), a);
        cuts.put(made.number, made);
        return made;
    }

    private Line newLine(Area a) {
        Line made = new Line(leastFree(0, lines), a);
        lines.put(made.number, made);
        return made;
    }

    private Spot newSpot(Area a, int sign, List<Line> hooked) {
        Spot made = new Spot(leastFree(0, spots), a, sign, hooked);
        spots.put(made.number, made);
        return made;
    }

    private void removePart(int kind, int number) {
        if (kind == 0) {
            spots.remove(number);
            return;
        }
        Area gone = cuts.get(number);
        spots.values().removeIf(s -> s.area.isOrIsIn(gone));
        lines.values().removeIf(l -> l.outer.isOrIsIn(gone));
        cuts.values().removeIf(c -> c.isOrIsIn(gone));
    }

    private Area copyCut(Area cut, Area to, Map<Line, Line> newLines) {
        Area made = newCut(to);
        for (Line l : List.copyOf(lines.values())) {
            if (l.outer == cut) {
                newLines.put(l, newLine(made));
            }
        }
        for (Spot s : List.copyOf(spots.values())) {
            if (s.area == cut) {
                List<Line> hooked = new ArrayList<>();
                s.lines.forEach(l -> hooked.add(newLines.getOrDefault(l, l)));
                newSpot(made, s.sign, hooked);
            }
        }
        for (Area c : List.copyOf(cuts.values())) {
            if (c.outer == cut) {
                copyCut(c, made, newLines);
            }
        }
        return made;
    }

    private List<Integer> reading(Area a) {
        List<Integer> all = new ArrayList<>();
        lines.values().stream().filter(l -> l.outer == a).forEach(l -> all.add(100 + l.number));
        spots.values().stream().filter(s -> s.area == a).forEach(s -> all.addAll(spotReading(s)));
        for (Area c : cuts.values()) {
            if (c.outer == a) {
                all.add(1);
                all.addAll(reading(c));
                all.add(2);
            }
        }
        return all;
    }

    private static List<Integer> spotReading(Spot s) {
        List<Integer> all = new ArrayList<>();
        all.add(10 + s.sign);
        s.lines.forEach(l -> all.add(100 + l.number));
        return all;
    }

    private List<Integer> partReading(int kind, int number) {
        if (kind == 0) {
            return spotReading(spots.get(number));
        }
        Area cut = cuts.get(number);
        List<Integer> all = reading(cut);
        Map<Integer, Integer> names = new HashMap<>();
        for (int i = 0; i < all.size(); i++) {
            int token = all.get(i);
            if (token >= 100 && lines.get(token - 100).outer.isOrIsIn(cut)) {
                names.putIfAbsent(token, 200 + names.size());
                all.set(i, names.get(token));
            }
        }
        return all;
    }

    private boolean areaHolds(Area a, int fromLine, Map<Line, Integer> things, int most, int bits) {
        for (Line l : lines.tailMap(fromLine).values()) {
            if (l.outer == a) {
                boolean some = false;
                for (int thing = 0; thing < most; thing++) {
                    Map<Line, Integer> more = new HashMap<>(things);
                    more.put(l, thing);
                    some |= areaHolds(a, l.number + 1, more, most, bits);
                }
                return some;
            }
        }
        boolean all = true;
        for (Spot s : spots.values()) {
            if (s.area == a) {
                int bit = s.sign == 0 ? 0 : s.sign == 1 ? 1 : s.sign == 2 ? 2 + things.get(s.lines.get(0))
                        : 5 + 3 * things.get(s.lines.get(0)) + things.get(s.lines.get(1));
                all &= (bits & 1 << bit) != 0;
            }
        }
        for (Area c : cuts.values()) {
            if (all && c.outer == a) {
                all = !areaHolds(c, 0, things, most, bits);
            }
        }
        return all;
    }
}
