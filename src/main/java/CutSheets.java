/** Sheets of spots, cuts and lines that are drawn, then changed by moves, read as tokens, and looked at in worlds. */
public final class CutSheets {
    private static final int CUTS = 12;
    private static final int AREAS = CUTS + 1;
    private static final int LINES = 6;
    private static final int SPOTS = 12;
    private static final int SIGNS = 4;
    private static final int MOVES = 20;
    private static final int MOST_THINGS = 3;
    private static final int WORLD_BITS = 14;

    private static final int NONE = -1;
    private static final int SPOT = 0;
    private static final int CUT = 1;
    private static final int LINE = 2;
    private static final int KINDS = 3;
    /** What wrap is given instead of a line: lines are no parts. */
    private static final int NOTHING = 2;

    /** The first sheet, and behind it the one that each move left, so that taking back is a step down. */
    private final Sheet[] sheets;
    private final Reading lastRead;
    private final Reading partRead;
    private final Reading otherRead;
    private final Look firstLook;
    private final Look nowLook;
    private final int[] standsFor;
    private boolean drawing;
    private int moves;

    public CutSheets() {
        sheets = new Sheet[MOVES + 1];
        for (int i = 0; i <= MOVES; i++) {
            sheets[i] = new Sheet();
        }
        lastRead = new Reading();
        partRead = new Reading();
        otherRead = new Reading();
        firstLook = new Look();
        nowLook = new Look();
        standsFor = new int[LINES];
        drawing = true;
        moves = 0;
    }

    public int cut(int area) throws IllegalArgumentException, IllegalStateException, UnsupportedOperationException {
        needArgument(sheet().hasArea(area));
        needState(mayInsert(area));
        needRoom(mayChange() && sheet().free(CUT) > 0);
        return changed().add(CUT, area);
    }

    public int line(int area) throws IllegalArgumentException, IllegalStateException, UnsupportedOperationException {
        needArgument(sheet().hasArea(area));
        needState(mayInsert(area));
        needRoom(mayChange() && sheet().free(LINE) > 0);
        return changed().add(LINE, area);
    }

    public int spot(int area, int sign, int first, int second)
            throws IllegalArgumentException, IllegalStateException, UnsupportedOperationException {
        needArgument(sheet().hasArea(area) && sign >= 0 && sign < SIGNS);
        int places = placesOf(sign);
        needArgument(places < 1 || sheet().reaches(first, area));
        needArgument(places < 2 || sheet().reaches(second, area));
        needState(mayInsert(area));
        needRoom(mayChange() && sheet().free(SPOT) > 0);
        return changed().addSpot(area, sign, places < 1 ? NONE : first, places < 2 ? NONE : second);
    }

    public void start() throws IllegalStateException {
        needState(drawing);
        drawing = false;
    }

    public int erase(int kind, int number)
            throws IllegalArgumentException, IllegalStateException, UnsupportedOperationException {
        Sheet now = sheet();
        needArgument(now.has(kind, number));
        needState(!drawing && !now.isOdd(now.areaOf(kind, number)));
        needState(kind != LINE || !now.isHooked(number));
        needRoom(mayChange());
        changed().remove(kind, number);
        return moves;
    }

    public int copy(int kind, int number, int area)
            throws IllegalArgumentException, IllegalStateException, UnsupportedOperationException {
        Sheet now = sheet();
        needArgument(now.hasPart(kind, number) && now.hasArea(area));
        needState(!drawing && now.isWithin(area, now.areaOf(kind, number)));
        needState(kind != CUT || !now.isWithin(area, number));
        needRoom(mayChange() && now.hasRoomForCopy(kind, number));
        for (int line = 0; line < LINES; line++) {
            standsFor[line] = line;
        }
        return changed().addCopy(kind, number, area, standsFor);
    }

    public int uncopy(int kind, int number)
            throws IllegalArgumentException, IllegalStateException, UnsupportedOperationException {
        needArgument(sheet().hasPart(kind, number));
        needState(!drawing && hasAlike(kind, number));
        needRoom(mayChange());
        changed().remove(kind, number);
        return moves;
    }

    public int wrap(int kind, int number)
            throws IllegalArgumentException, IllegalStateException, UnsupportedOperationException {
        Sheet now = sheet();
        needArgument(kind == NOTHING ? now.hasArea(number) : now.hasPart(kind, number));
        needState(!drawing);
        needRoom(mayChange() && now.free(CUT) >= 2);
        Sheet next = changed();
        int outer = next.add(CUT, kind == NOTHING ? number : next.areaOf(kind, number));
        int inner = next.add(CUT, outer);
        if (kind != NOTHING) {
            next.put(kind, number, inner);
        }
        return outer;
    }

    public int unwrap(int cut) throws IllegalArgumentException, IllegalStateException, UnsupportedOperationException {
        needArgument(sheet().has(CUT, cut));
        needState(!drawing && sheet().holdsOneCutAlone(cut));
        needRoom(mayChange());
        changed().removeDoubleCut(cut);
        return moves;
    }

    public int join(int first, int second)
            throws IllegalArgumentException, IllegalStateException, UnsupportedOperationException {
        Sheet now = sheet();
        needArgument(now.has(LINE, first) && now.has(LINE, second) && first != second);
        int area = now.areaOf(LINE, first);
        needState(!drawing && now.isOdd(area) && now.reaches(second, area));
        needRoom(mayChange());
        Sheet next = changed();
        next.rehook(first, second, area);
        next.remove(LINE, first);
        return moves;
    }

    public int sever(int line, int area)
            throws IllegalArgumentException, IllegalStateException, UnsupportedOperationException {
        Sheet now = sheet();
        needArgument(now.has(LINE, line) && now.hasArea(area));
        needState(!drawing && !now.isOdd(area) && now.reaches(line, area));
        needRoom(mayChange() && now.free(LINE) > 0);
        Sheet next = changed();
        int made = next.add(LINE, area);
        next.rehook(line, made, area);
        return made;
    }

    public int back() throws IllegalStateException {
        needState(moves > 0);
        moves--;
        return moves;
    }

    public int depth(int area) throws IllegalArgumentException {
        needArgument(sheet().hasArea(area));
        return sheet().depthOf(area);
    }

    public int read(int area) throws IllegalArgumentException {
        needArgument(sheet().hasArea(area));
        lastRead.takeArea(sheet(), area);
        return lastRead.size;
    }

    public int token(int i) throws IndexOutOfBoundsException {
        if (i < 0 || i >= lastRead.size) {
            throw new IndexOutOfBoundsException();
        }
        return lastRead.tokens[i];
    }

    public boolean holds(boolean first, int things, int bits) throws IllegalArgumentException, IllegalStateException {
        needArgument(things >= 1 && things <= MOST_THINGS && bits >= 0 && bits < 1 << WORLD_BITS);
        needState(!first || !drawing);
        nowLook.arrange(first ? sheets[0] : sheet());
        return nowLook.isTrueIn(things, bits);
    }

    public int refutes(int things) throws IllegalArgumentException, IllegalStateException {
        needArgument(things == 1 || things == 2);
        needState(!drawing);
        firstLook.arrange(sheets[0]);
        nowLook.arrange(sheet());
        int all = bitsOf(things);
        for (int bits = 0; bits <= all; bits++) {
            if ((bits & ~all) == 0 && firstLook.isTrueIn(things, bits) && !nowLook.isTrueIn(things, bits)) {
                return bits;
            }
        }
        return -1;
    }

    public int count(int which) throws IllegalArgumentException {
        needArgument(which >= 0 && which <= 3);
        switch (which) {
            case 0:
                return sheet().howMany(CUT);
            case 1:
                return sheet().howMany(SPOT);
            case 2:
                return sheet().howMany(LINE);
            default:
                return moves;
        }
    }

    private static void needArgument(boolean fits) {
        if (!fits) {
            throw new IllegalArgumentException();
        }
    }

    private static void needState(boolean fits) {
        if (!fits) {
            throw new IllegalStateException();
        }
    }

    private static void needRoom(boolean fits) {
        if (!fits) {
            throw new UnsupportedOperationException();
        }
    }

    /** While a sheet is drawn there are no moves, so this is the first one then. */
    private Sheet sheet() {
        return sheets[moves];
    }

    private boolean mayInsert(int area) {
        return drawing || sheet().isOdd(area);
    }

    private boolean mayChange() {
        return drawing || moves < MOVES;
    }

    /** The sheet to change: the drawn one itself, or else a new one, so that the one before it stays as it was. */
    private Sheet changed() {
        if (!drawing && moves < MOVES) {
            sheets[moves + 1].takeOver(sheets[moves]);
            moves++;
        }
        return sheets[moves];
    }

    private boolean hasAlike(int kind, int number) {
        Sheet now = sheet();
        int area = now.areaOf(kind, number);
        partRead.takePart(now, kind, number);
        for (int other = 0; other < AREAS; other++) {
            if (other != number && now.hasPart(kind, other) && now.isWithin(area, now.areaOf(kind, other))) {
                otherRead.takePart(now, kind, other);
                if (partRead.isSame(otherRead)) {
                    return true;
                }
            }
        }
        return false;
    }

    private static int placesOf(int sign) {
        return sign < 2 ? 0 : sign - 1;
    }

    private static int bitOfOne(int x) {
        return 2 + x;
    }

    private static int bitOfTwo(int x, int y) {
        return 5 + 3 * x + y;
    }

    /** All bits that tell something of a world of so many things. */
    private static int bitsOf(int things) {
        int all = 3;
        for (int x = 0; x < things; x++) {
            all |= 1 << bitOfOne(x);
            for (int y = 0; y < things; y++) {
                all |= 1 << bitOfTwo(x, y);
            }
        }
        return all;
    }

    private static boolean isAmong(int areas, int area) {
        return area != NONE && (areas >> area & 1) == 1;
    }

    /** One state of the sheet; a set of areas is a number with a bit for each. */
    private static final class Sheet {
        /** In which area each one lies, NONE for a free number; cut number 0 is the sheet, which lies nowhere. */
        private final int[] spotArea = new int[SPOTS];
        private final int[] cutArea = new int[AREAS];
        private final int[] lineArea = new int[LINES];
        private final int[] spotSign = new int[SPOTS];
        /** Two for each spot; NONE in places that its sign does not have. */
        private final int[] hooks = new int[2 * SPOTS];

        Sheet() {
            for (int spot = 0; spot < SPOTS; spot++) {
                spotArea[spot] = NONE;
            }
            for (int cut = 0; cut < AREAS; cut++) {
                cutArea[cut] = NONE;
            }
            for (int line = 0; line < LINES; line++) {
                lineArea[line] = NONE;
            }
        }

        void takeOver(Sheet other) {
            System.arraycopy(other.spotArea, 0, spotArea, 0, SPOTS);
            System.arraycopy(other.cutArea, 0, cutArea, 0, AREAS);
            System.arraycopy(other.lineArea, 0, lineArea, 0, LINES);
            System.arraycopy(other.spotSign, 0, spotSign, 0, SPOTS);
            System.arraycopy(other.hooks, 0, hooks, 0, 2 * SPOTS);
        }

        private int[] areas(int kind) {
            if (kind == SPOT) {
                return spotArea;
            }
            return kind == CUT ? cutArea : lineArea;
        }

        /** The sheet's own place in the row of cuts can not be taken. */
        private int leastNumber(int kind) {
            return kind == CUT ? 1 : 0;
        }

        boolean has(int kind, int number) {
            return kind >= 0 && kind < KINDS && number >= 0 && number < areas(kind).length
                    && areas(kind)[number] != NONE;
        }

        boolean hasPart(int kind, int number) {
            return kind != LINE && has(kind, number);
        }

        boolean hasArea(int area) {
            return area == 0 || has(CUT, area);
        }

        int areaOf(int kind, int number) {
            return has(kind, number) ? areas(kind)[number] : NONE;
        }

        int howMany(int kind) {
            return howManyIn(kind, (1 << AREAS) - 1);
        }

        int free(int kind) {
            return areas(kind).length - leastNumber(kind) - howMany(kind);
        }

        private int howManyIn(int kind, int among) {
            int found = 0;
            for (int number = 0; number < areas(kind).length; number++) {
                if (isAmong(among, areas(kind)[number])) {
                    found++;
                }
            }
            return found;
        }

        int depthOf(int area) {
            int depth = 0;
            int at = areaOf(CUT, area);
            while (at != NONE && depth < CUTS) {
                depth++;
                at = cutArea[at];
            }
            return depth;
        }

        boolean isOdd(int area) {
            return depthOf(area) % 2 == 1;
        }

        /** Whether an area is the outer one or in it. */
        boolean isWithin(int area, int outer) {
            int at = area;
            for (int step = 0; step < AREAS && at != NONE; step++) {
                if (at == outer) {
                    return true;
                }
                at = cutArea[at];
            }
            return false;
        }

        int areasWithin(int outer) {
            int found = 0;
            for (int area = 0; area < AREAS; area++) {
                if (hasArea(area) && isWithin(area, outer)) {
                    found |= 1 << area;
                }
            }
            return found;
        }

        /** Whether there is such a line, and it can be hooked in an area. */
        boolean reaches(int line, int area) {
            return has(LINE, line) && isWithin(area, lineArea[line]);
        }

        boolean isHooked(int line) {
            for (int spot = 0; spot < SPOTS; spot++) {
                if (spotArea[spot] != NONE && (hooks[2 * spot] == line || hooks[2 * spot + 1] == line)) {
                    return true;
                }
            }
            return false;
        }

        int add(int kind, int area) {
            int[] row = areas(kind);
            for (int number = leastNumber(kind); number < row.length; number++) {
                if (row[number] == NONE) {
                    row[number] = area;
                    return number;
                }
            }
            return NONE;
        }

        int addSpot(int area, int sign, int first, int second) {
            int spot = add(SPOT, area);
            if (spot != NONE) {
                spotSign[spot] = sign;
                hooks[2 * spot] = first;
                hooks[2 * spot + 1] = second;
            }
            return spot;
        }

        void put(int kind, int number, int area) {
            if (has(kind, number)) {
                areas(kind)[number] = area;
            }
        }

        void remove(int kind, int number) {
            if (kind == CUT) {
                putAll(areasWithin(number), NONE);
            }
            put(kind, number, NONE);
        }

        /** All that lies in some areas comes into another one, or goes where that is NONE. */
        private void putAll(int from, int to) {
            for (int kind = 0; kind < KINDS; kind++) {
                int[] row = areas(kind);
                for (int number = 0; number < row.length; number++) {
                    if (isAmong(from, row[number])) {
                        row[number] = to;
                    }
                }
            }
        }

        /** One line takes the place of another in all spots of an area and of those in it. */
        void rehook(int line, int instead, int area) {
            int among = areasWithin(area);
            for (int hook = 0; hook < 2 * SPOTS; hook++) {
                if (hooks[hook] == line && isAmong(among, spotArea[hook / 2])) {
                    hooks[hook] = instead;
                }
            }
        }

        boolean holdsOneCutAlone(int cut) {
            int alone = 1 << cut;
            return howManyIn(CUT, alone) == 1 && howManyIn(SPOT, alone) == 0 && howManyIn(LINE, alone) == 0;
        }

        void removeDoubleCut(int outer) {
            int area = areaOf(CUT, outer);
            for (int inner = 1; inner < AREAS; inner++) {
                if (cutArea[inner] == outer) {
                    putAll(1 << inner, area);
                    put(CUT, inner, NONE);
                }
            }
            put(CUT, outer, NONE);
        }

        boolean hasRoomForCopy(int kind, int number) {
            if (kind == SPOT) {
                return free(SPOT) > 0;
            }
            int inside = areasWithin(number);
            return free(CUT) > howManyIn(CUT, inside) && free(LINE) >= howManyIn(LINE, inside)
                    && free(SPOT) >= howManyIn(SPOT, inside);
        }

        /** The row tells for each line which one stands for it in the copy: at first each for itself. */
        int addCopy(int kind, int number, int area, int[] standsFor) {
            return kind == SPOT ? copySpot(number, area, standsFor) : copyCut(number, area, standsFor, 0);
        }

        private int copySpot(int spot, int area, int[] standsFor) {
            int first = hooks[2 * spot];
            int second = hooks[2 * spot + 1];
            return addSpot(area, spotSign[spot], first == NONE ? NONE : standsFor[first],
                    second == NONE ? NONE : standsFor[second]);
        }

        private int copyCut(int cut, int area, int[] standsFor, int level) {
            if (level >= CUTS) {
                return NONE;
            }
            int made = add(CUT, area);
            for (int line = 0; line < LINES; line++) {
                if (lineArea[line] == cut) {
                    standsFor[line] = add(LINE, made);
                }
            }
            for (int spot = 0; spot < SPOTS; spot++) {
                if (spotArea[spot] == cut) {
                    copySpot(spot, made, standsFor);
                }
            }
            copyCutsIn(cut, made, standsFor, level);
            return made;
        }

        private void copyCutsIn(int cut, int made, int[] standsFor, int level) {
            for (int inner = 1; inner < AREAS; inner++) {
                if (cutArea[inner] == cut) {
                    copyCut(inner, made, standsFor, level + 1);
                }
            }
        }
    }

    /** A row of tokens. */
    private static final class Reading {
        private static final int OPENED = 1;
        private static final int CLOSED = 2;
        private static final int SIGN = 10;
        private static final int NUMBERED = 100;
        private static final int ORDERED = 200;

        private final int[] tokens = new int[LINES + 3 * SPOTS + 2 * CUTS];
        private int size = 0;
        /** The areas whose lines are told by the order in which they are read, so that copies read the same. */
        private int innerAreas = 0;
        private final int[] orders = new int[LINES];
        private int ordered = 0;

        void takeArea(Sheet sheet, int area) {
            clear(0);
            addArea(sheet, area, 0);
        }

        void takePart(Sheet sheet, int kind, int number) {
            if (kind == SPOT) {
                clear(0);
                addSpot(sheet, number);
            } else {
                clear(sheet.areasWithin(number));
                addArea(sheet, number, 0);
            }
        }

        boolean isSame(Reading other) {
            if (size != other.size) {
                return false;
            }
            for (int i = 0; i < size; i++) {
                if (tokens[i] != other.tokens[i]) {
                    return false;
                }
            }
            return true;
        }

        private void clear(int inner) {
            size = 0;
            innerAreas = inner;
            ordered = 0;
            for (int line = 0; line < LINES; line++) {
                orders[line] = NONE;
            }
        }

        private void addArea(Sheet sheet, int area, int level) {
            if (level > CUTS) {
                return;
            }
            for (int line = 0; line < LINES; line++) {
                if (sheet.lineArea[line] == area) {
                    addLine(sheet, line);
                }
            }
            for (int spot = 0; spot < SPOTS; spot++) {
                if (sheet.spotArea[spot] == area) {
                    addSpot(sheet, spot);
                }
            }
            addCutsIn(sheet, area, level);
        }

        private void addCutsIn(Sheet sheet, int area, int level) {
            for (int cut = 1; cut < AREAS; cut++) {
                if (sheet.cutArea[cut] == area) {
                    add(OPENED);
                    addArea(sheet, cut, level + 1);
                    add(CLOSED);
                }
            }
        }

        private void addSpot(Sheet sheet, int spot) {
            add(SIGN + sheet.spotSign[spot]);
            for (int place = 0; place < placesOf(sheet.spotSign[spot]); place++) {
                addLine(sheet, sheet.hooks[2 * spot + place]);
            }
        }

        private void addLine(Sheet sheet, int line) {
            int outer = line == NONE ? NONE : sheet.lineArea[line];
            if (!isAmong(innerAreas, outer)) {
                add(NUMBERED + line);
                return;
            }
            if (orders[line] == NONE) {
                orders[line] = ordered;
                ordered++;
            }
            add(ORDERED + orders[line]);
        }

        private void add(int token) {
            if (size < tokens.length) {
                tokens[size] = token;
                size++;
            }
        }
    }

    /** Numbers in the order of the areas in which they lie. */
    private static final class Groups {
        private final int[] numbers;
        /** Where each area's numbers begin; those of the next one begin where they end. */
        private final int[] begins = new int[AREAS + 1];

        Groups(int most) {
            numbers = new int[most];
        }

        void arrange(int[] areas) {
            int size = 0;
            for (int area = 0; area < AREAS; area++) {
                begins[area] = size;
                for (int number = 0; number < areas.length; number++) {
                    if (areas[number] == area && size < numbers.length) {
                        numbers[size] = number;
                        size++;
                    }
                }
            }
            begins[AREAS] = size;
        }
    }

    /** Looks at a sheet in worlds; it is arranged by areas once, since many worlds may be asked about. */
    private static final class Look {
        private final Groups lines = new Groups(LINES);
        private final Groups spots = new Groups(SPOTS);
        private final Groups cuts = new Groups(CUTS);
        private final int[] hookedArea = new int[LINES];
        private final int[] signs = new int[SPOTS];
        private final int[] hooks = new int[2 * SPOTS];
        private final int[] thingOf = new int[LINES];
        private int things = 1;
        private int bits = 0;

        void arrange(Sheet sheet) {
            for (int line = 0; line < LINES; line++) {
                // A world has some thing for a line that nothing is hooked to: trying them all is spared.
                hookedArea[line] = sheet.isHooked(line) ? sheet.lineArea[line] : NONE;
            }
            lines.arrange(hookedArea);
            spots.arrange(sheet.spotArea);
            cuts.arrange(sheet.cutArea);
            System.arraycopy(sheet.spotSign, 0, signs, 0, SPOTS);
            System.arraycopy(sheet.hooks, 0, hooks, 0, 2 * SPOTS);
        }

        boolean isTrueIn(int worldThings, int worldBits) {
            things = worldThings;
            bits = worldBits;
            return isAreaTrue(0, 0);
        }

        private boolean isAreaTrue(int area, int level) {
            if (level > CUTS) {
                return false;
            }
            int ways = 1;
            for (int i = lines.begins[area]; i < lines.begins[area + 1]; i++) {
                thingOf[lines.numbers[i]] = 0;
                ways *= things;
            }
            for (int way = 0; way < ways; way++) {
                if (areSpotsTrue(area) && areCutsFalse(area, level)) {
                    return true;
                }
                takeNextThings(area);
            }
            return false;
        }

        /** Counts up the things of an area's lines as the digits of a number. */
        private void takeNextThings(int area) {
            for (int i = lines.begins[area]; i < lines.begins[area + 1]; i++) {
                int line = lines.numbers[i];
                thingOf[line]++;
                if (thingOf[line] < things) {
                    return;
                }
                thingOf[line] = 0;
            }
        }

        private boolean areSpotsTrue(int area) {
            for (int i = spots.begins[area]; i < spots.begins[area + 1]; i++) {
                if ((bits >> bitOfSpot(spots.numbers[i]) & 1) == 0) {
                    return false;
                }
            }
            return true;
        }

        private int bitOfSpot(int spot) {
            int sign = signs[spot];
            if (sign < 2) {
                return sign;
            }
            int x = thingAt(2 * spot);
            return sign == 2 ? bitOfOne(x) : bitOfTwo(x, thingAt(2 * spot + 1));
        }

        private int thingAt(int hook) {
            int line = hooks[hook];
            return line == NONE ? 0 : thingOf[line];
        }

        private boolean areCutsFalse(int area, int level) {
            for (int i = cuts.begins[area]; i < cuts.begins[area + 1]; i++) {
                if (isAreaTrue(cuts.numbers[i], level + 1)) {
                    return false;
                }
            }
            return true;
        }
    }
}
