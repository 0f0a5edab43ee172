import java.util.Arrays;

/** Four latin tables with a unit, their laws, parts, turns and renamings; ../shared/DOC.md says what each call does. */
public final class LatinLaws {
    public static final int BAD = -1, NO = -2, NONE = -4;

    private static final int TABLES = 4;
    private static final int MOST_ELEMENTS = 8;
    private static final int MOST_WAYS = 10000;
    private static final int MOST_ELEMENTS_TO_END = 6;
    private static final int MOST_ELEMENTS_FOR_GROUP = 7;
    private static final int MOST_ELEMENTS_FOR_THREE = 6;
    private static final int MOST_ELEMENTS_TO_DOUBLE = 4;
    private static final int LAWS = 13;
    private static final int KINDS_OF_JOINING = 5;

    private final Table[] tables;
    // A new table is built here first, since the table that it goes to may be one that it is built from.
    private final Table built;
    private final Endings endings;
    private final Turns turns;
    private final Renamings renamings;

    public LatinLaws() {
        tables = new Table[TABLES];
        for (int t = 0; t < TABLES; t++) {
            tables[t] = new Table();
        }
        built = new Table();
        endings = new Endings();
        turns = new Turns();
        renamings = new Renamings();
    }

    public int table(int t, int n) {
        if (!isTable(t) || n < 1 || n > MOST_ELEMENTS) {
            return BAD;
        }
        tables[t].restart(n);
        return 0;
    }

    public int set(int t, int a, int b, int v) {
        if (!isTable(t) || a == 0 || b == 0 || !isElement(t, a) || !isElement(t, b)) {
            return BAD;
        }
        if (v != Table.EMPTY && !isElement(t, v)) {
            return BAD;
        }
        if (v != Table.EMPTY && tables[t].hasInLines(a, b, v)) {
            return NO;
        }
        int before = tables[t].times(a, b);
        tables[t].put(a, b, v);
        return orNone(before);
    }

    public int at(int t, int a, int b) {
        if (!isTable(t) || !isElement(t, a) || !isElement(t, b)) {
            return BAD;
        }
        return orNone(tables[t].times(a, b));
    }

    public int empty(int t) {
        if (!isTable(t)) {
            return BAD;
        }
        return tables[t].countEmpty();
    }

    public int ways(int t, int most) {
        if (!isTable(t) || most < 1 || most > MOST_WAYS) {
            return BAD;
        }
        if (tables[t].n > MOST_ELEMENTS_TO_END) {
            return NO;
        }
        return endings.count(tables[t], most);
    }

    public int end(int s, int t) {
        if (!isTable(s) || !isTable(t)) {
            return BAD;
        }
        if (tables[t].n > MOST_ELEMENTS_TO_END) {
            return NO;
        }
        if (endings.count(tables[t], 1) == 0) {
            return 0;
        }
        tables[s].takeOver(endings.first);
        return 1;
    }

    public int divide(int t, int what, int a, int c) {
        if (!isTable(t) || !isBelow(what, 2) || !isElement(t, a) || !isElement(t, c)) {
            return BAD;
        }
        if (!tables[t].isFull()) {
            return NO;
        }
        return what == 0 ? tables[t].under(a, c) : tables[t].over(c, a);
    }

    public int law(int t, int law, int what) {
        if (!isTable(t) || !isBelow(law, LAWS) || !isBelow(what, 2)) {
            return BAD;
        }
        if (!tables[t].isFull()) {
            return NO;
        }
        return what == 0 ? Laws.firstBroken(tables[t], law) : Laws.countBroken(tables[t], law);
    }

    public int joining(int t, int what) {
        if (!isTable(t) || !isBelow(what, KINDS_OF_JOINING)) {
            return BAD;
        }
        if (!tables[t].isFull()) {
            return NO;
        }
        return Joining.all(tables[t], what);
    }

    public int made(int t, int set) {
        if (!isTable(t) || !isSet(t, set)) {
            return BAD;
        }
        if (!tables[t].isFull()) {
            return NO;
        }
        return Parts.leastWith(tables[t], set);
    }

    public int parts(int t, int what) {
        if (!isTable(t) || !isBelow(what, 2)) {
            return BAD;
        }
        if (!tables[t].isFull()) {
            return NO;
        }
        return Parts.count(tables[t], what == 1);
    }

    public int normal(int t, int part) {
        if (!isTable(t)) {
            return BAD;
        }
        int fault = faultOfPart(t, part);
        if (fault != 0) {
            return fault;
        }
        return Parts.isNormal(tables[t], part) ? 1 : 0;
    }

    public int left(int s, int t, int part) {
        if (!isTable(s) || !isTable(t)) {
            return BAD;
        }
        int fault = faultOfPart(t, part);
        if (fault != 0) {
            return fault;
        }
        if (!Parts.isNormal(tables[t], part)) {
            return NO;
        }
        Parts.buildLeft(tables[t], part, built);
        return keepBuilt(s);
    }

    public int group(int t) {
        if (!isTable(t)) {
            return BAD;
        }
        if (!tables[t].isFull() || tables[t].n > MOST_ELEMENTS_FOR_GROUP) {
            return NO;
        }
        return turns.count(tables[t]);
    }

    public int alike(int s, int t, boolean three) {
        if (!isTable(s) || !isTable(t)) {
            return BAD;
        }
        Table first = tables[s];
        Table second = tables[t];
        if (!first.isFull() || !second.isFull()) {
            return NO;
        }
        if (three && Math.max(first.n, second.n) > MOST_ELEMENTS_FOR_THREE) {
            return NO;
        }
        boolean found = three ? renamings.areAlikeByThree(first, second, built) : renamings.areAlike(first, second);
        return found ? 1 : 0;
    }

    public int name(int s, int t) {
        if (!isTable(s) || !isTable(t)) {
            return BAD;
        }
        if (!tables[t].isFull()) {
            return NO;
        }
        int same = renamings.findLeast(tables[t]);
        tables[s].takeOver(renamings.least);
        return same;
    }

    public int square(int t, int i) {
        if (!isTable(t) || i < -1) {
            return BAD;
        }
        if (!tables[t].isFull()) {
            return NO;
        }
        return i == -1 ? Squares.count(tables[t]) : Squares.find(tables[t], i);
    }

    public int turn(int t, int i) {
        if (!isTable(t) || i < 0) {
            return BAD;
        }
        if (!tables[t].isFull()) {
            return NO;
        }
        int found = Squares.find(tables[t], i);
        if (found == NONE) {
            return BAD;
        }
        Squares.change(tables[t], found);
        return 1;
    }

    public int doubled(int s, int t, int f) {
        if (!isTable(s) || !isTable(t)) {
            return BAD;
        }
        if (!tables[t].isFull() || tables[t].n > MOST_ELEMENTS_TO_DOUBLE) {
            return NO;
        }
        Larger.buildDoubled(tables[t], f, built);
        return keepBuilt(s);
    }

    public int product(int s, int t, int u) {
        if (!isTable(s) || !isTable(t) || !isTable(u)) {
            return BAD;
        }
        if (!tables[t].isFull() || !tables[u].isFull() || tables[t].n * tables[u].n > MOST_ELEMENTS) {
            return NO;
        }
        Larger.buildProduct(tables[t], tables[u], built);
        return keepBuilt(s);
    }

    public int size(int t) {
        if (!isTable(t)) {
            return BAD;
        }
        return tables[t].n;
    }

    private static boolean isBelow(int number, int bound) {
        return number >= 0 && number < bound;
    }

    private static boolean isTable(int t) {
        return isBelow(t, TABLES);
    }

    private boolean isElement(int t, int a) {
        return isBelow(a, tables[t].n);
    }

    private boolean isSet(int t, int bits) {
        return isBelow(bits, 1 << tables[t].n);
    }

    private static int orNone(int value) {
        return value == Table.EMPTY ? NONE : value;
    }

    // Whether a set is a PART can be told of a FULL table alone, so NO stands between the two kinds of BAD.
    private int faultOfPart(int t, int part) {
        if (!isSet(t, part)) {
            return BAD;
        }
        if (!tables[t].isFull()) {
            return NO;
        }
        return Parts.isPart(tables[t], part) ? 0 : BAD;
    }

    private int keepBuilt(int s) {
        tables[s].takeOver(built);
        return built.n;
    }

    /** A latin table whose row 0 and column 0 are always filled. */
    private static final class Table {
        static final int EMPTY = -1;

        int n;
        private final int[] cells;

        Table() {
            cells = new int[MOST_ELEMENTS * MOST_ELEMENTS];
            restart(1);
        }

        void restart(int elements) {
            n = Math.max(1, Math.min(elements, MOST_ELEMENTS));
            Arrays.fill(cells, EMPTY);
            for (int a = 0; a < n; a++) {
                put(0, a, a);
                put(a, 0, a);
            }
        }

        void takeOver(Table other) {
            n = other.n;
            System.arraycopy(other.cells, 0, cells, 0, MOST_ELEMENTS * MOST_ELEMENTS);
        }

        int times(int a, int b) {
            return a >= 0 && a < n && b >= 0 && b < n ? cells[MOST_ELEMENTS * a + b] : EMPTY;
        }

        void put(int a, int b, int v) {
            if (a >= 0 && a < n && b >= 0 && b < n) {
                cells[MOST_ELEMENTS * a + b] = v;
            }
        }

        boolean hasInLines(int a, int b, int v) {
            for (int x = 0; x < n; x++) {
                if (times(a, x) == v || times(x, b) == v) {
                    return true;
                }
            }
            return false;
        }

        int countEmpty() {
            int count = 0;
            for (int a = 1; a < n; a++) {
                for (int b = 1; b < n; b++) {
                    if (times(a, b) == EMPTY) {
                        count++;
                    }
                }
            }
            return count;
        }

        boolean isFull() {
            return countEmpty() == 0;
        }

        /** a \ c. */
        int under(int a, int c) {
            for (int b = 0; b < n; b++) {
                if (times(a, b) == c) {
                    return b;
                }
            }
            return EMPTY;
        }

        /** c / b. */
        int over(int c, int b) {
            for (int a = 0; a < n; a++) {
                if (times(a, b) == c) {
                    return a;
                }
            }
            return EMPTY;
        }
    }

    /** Goes through the FULL tables that have the cells of one, in the order that the document names. */
    private static final class Endings {
        private static final int MOST_OPEN = (MOST_ELEMENTS_TO_END - 1) * (MOST_ELEMENTS_TO_END - 1);

        final Table first;
        private final Table tried;
        private final int[] open;
        private int openCount;
        private final int[] inRow;
        private final int[] inColumn;
        private int found;
        private int most;

        Endings() {
            first = new Table();
            tried = new Table();
            open = new int[MOST_OPEN];
            inRow = new int[MOST_ELEMENTS];
            inColumn = new int[MOST_ELEMENTS];
        }

        /** Counts to limit at most; the first table found stays in first. */
        int count(Table t, int limit) {
            tried.takeOver(t);
            most = limit;
            found = 0;
            lookOver();
            fill(0);
            return found;
        }

        private void lookOver() {
            Arrays.fill(inRow, 0);
            Arrays.fill(inColumn, 0);
            openCount = 0;
            for (int a = 0; a < tried.n; a++) {
                for (int b = 0; b < tried.n; b++) {
                    int v = tried.times(a, b);
                    if (v != Table.EMPTY) {
                        inRow[a] |= 1 << v;
                        inColumn[b] |= 1 << v;
                    } else if (openCount < MOST_OPEN) {
                        open[openCount] = MOST_ELEMENTS * a + b;
                        openCount++;
                    }
                }
            }
        }

        // The depth is the number of open cells filled so far, MOST_OPEN at most.
        private void fill(int depth) {
            if (depth >= openCount) {
                keepFound();
                return;
            }
            int a = open[depth] / MOST_ELEMENTS;
            int b = open[depth] % MOST_ELEMENTS;
            int taken = inRow[a] | inColumn[b];
            for (int v = 0; v < tried.n && found < most; v++) {
                int bit = 1 << v;
                if ((taken & bit) == 0) {
                    tried.put(a, b, v);
                    inRow[a] |= bit;
                    inColumn[b] |= bit;
                    fill(depth + 1);
                    inRow[a] &= ~bit;
                    inColumn[b] &= ~bit;
                }
            }
        }

        private void keepFound() {
            if (found == 0) {
                first.takeOver(tried);
            }
            found++;
        }
    }

    /** The LAWS, in the order and with the letters of the document. */
    private static final class Laws {
        static int firstBroken(Table t, int law) {
            return look(t, law, true);
        }

        static int countBroken(Table t, int law) {
            return look(t, law, false);
        }

        private static int look(Table t, int law, boolean stopAtFirst) {
            int n = t.n;
            int letters = countLetters(law);
            int ys = letters > 1 ? n : 1;
            int zs = letters > 2 ? n : 1;
            int broken = 0;
            for (int x = 0; x < n; x++) {
                for (int y = 0; y < ys; y++) {
                    for (int z = 0; z < zs; z++) {
                        if (!holds(t, law, x, y, z)) {
                            if (stopAtFirst) {
                                return n * n * x + n * y + z;
                            }
                            broken++;
                        }
                    }
                }
            }
            return stopAtFirst ? NONE : broken;
        }

        private static int countLetters(int law) {
            switch (law) {
                case 8:
                case 11:
                    return 1;
                case 0:
                case 2:
                case 3:
                case 4:
                case 9:
                case 10:
                    return 2;
                default:
                    return 3;
            }
        }

        private static boolean holds(Table t, int law, int x, int y, int z) {
            return countLetters(law) < 3 ? holdsForTwo(t, law, x, y) : holdsForThree(t, law, x, y, z);
        }

        private static boolean holdsForTwo(Table t, int law, int x, int y) {
            int xx = t.times(x, x);
            int xy = t.times(x, y);
            int yx = t.times(y, x);
            switch (law) {
                case 0:
                    return xy == yx;
                case 2:
                    return t.times(x, yx) == t.times(xy, x);
                case 3:
                    return t.times(x, xy) == t.times(xx, y);
                case 4:
                    return t.times(yx, x) == t.times(y, xx);
                case 8:
                    return t.under(x, 0) == t.over(0, x);
                case 9:
                    return t.times(t.under(x, 0), xy) == y;
                case 10:
                    return t.times(yx, t.over(0, x)) == y;
                default:
                    return xx == 0;
            }
        }

        private static boolean holdsForThree(Table t, int law, int x, int y, int z) {
            int xy = t.times(x, y);
            int xz = t.times(x, z);
            int yz = t.times(y, z);
            switch (law) {
                case 1:
                    return t.times(xy, z) == t.times(x, yz);
                case 5:
                    return t.times(x, t.times(y, xz)) == t.times(t.times(x, t.times(y, x)), z);
                case 6:
                    return t.times(t.times(t.times(z, x), y), x) == t.times(z, t.times(xy, x));
                case 7:
                    return t.times(t.times(xy, x), z) == t.times(x, t.times(y, xz));
                default:
                    return t.times(xy, xz) == t.times(t.times(x, x), yz);
            }
        }
    }

    /** LEFT, MIDDLE, RIGHT JOINING, CHANGING (0 to 3) and THE MIDST (4). */
    private static final class Joining {
        private static final int CHANGING = 3;
        private static final int MIDST = 4;

        static int all(Table t, int what) {
            int bits = 0;
            for (int a = 0; a < t.n; a++) {
                if (what == MIDST ? isInMidst(t, a) : isIn(t, what, a)) {
                    bits |= 1 << a;
                }
            }
            return bits;
        }

        private static boolean isInMidst(Table t, int a) {
            for (int what = 0; what < MIDST; what++) {
                if (!isIn(t, what, a)) {
                    return false;
                }
            }
            return true;
        }

        private static boolean isIn(Table t, int what, int a) {
            for (int x = 0; x < t.n; x++) {
                for (int y = 0; y < t.n; y++) {
                    if (!holds(t, what, a, x, y)) {
                        return false;
                    }
                }
            }
            return true;
        }

        private static boolean holds(Table t, int what, int a, int x, int y) {
            switch (what) {
                case 0:
                    return joins(t, a, x, y);
                case 1:
                    return joins(t, x, a, y);
                case 2:
                    return joins(t, x, y, a);
                case CHANGING:
                    return t.times(a, x) == t.times(x, a);
                default:
                    return false;
            }
        }

        private static boolean joins(Table t, int x, int y, int z) {
            return t.times(t.times(x, y), z) == t.times(x, t.times(y, z));
        }
    }

    /** Sets of elements as bits: PARTS, what makes them, NORMAL ones and what they leave. */
    private static final class Parts {
        // A set that has all products of its elements has their quotients too: x to a x takes it
        // into itself, no two elements to one, and it is finite, so every a \ b is reached in it.
        static boolean isPart(Table t, int set) {
            return (set & 1) != 0 && withProducts(t, set) == set;
        }

        static int leastWith(Table t, int set) {
            int grown = set | 1;
            for (int round = 0; round < MOST_ELEMENTS; round++) {
                grown = withProducts(t, grown);
            }
            return grown;
        }

        private static int withProducts(Table t, int set) {
            int grown = set;
            for (int a = 0; a < t.n; a++) {
                if (has(set, a)) {
                    grown |= fromLeft(t, a, set);
                }
            }
            return grown;
        }

        static int count(Table t, boolean normalOnes) {
            int count = 0;
            for (int set = 1; set < 1 << t.n; set += 2) {
                if (isPart(t, set) && (!normalOnes || isNormal(t, set))) {
                    count++;
                }
            }
            return count;
        }

        static boolean isNormal(Table t, int h) {
            for (int x = 0; x < t.n; x++) {
                if (fromLeft(t, x, h) != fromRight(t, h, x)) {
                    return false;
                }
                for (int y = 0; y < t.n; y++) {
                    int xy = t.times(x, y);
                    if (fromLeft(t, x, fromLeft(t, y, h)) != fromLeft(t, xy, h)) {
                        return false;
                    }
                    if (fromRight(t, fromRight(t, h, x), y) != fromRight(t, h, xy)) {
                        return false;
                    }
                }
            }
            return true;
        }

        /** Builds WHAT IS LEFT of t by a NORMAL part h. */
        static void buildLeft(Table t, int h, Table built) {
            int leasts = 0;
            for (int x = 0; x < t.n; x++) {
                leasts |= 1 << leastBeside(t, x, h);
            }
            built.restart(Integer.bitCount(leasts));
            for (int x = 0; x < t.n; x++) {
                for (int y = 0; y < t.n; y++) {
                    if (has(leasts, x) && has(leasts, y)) {
                        int least = leastBeside(t, t.times(x, y), h);
                        built.put(place(leasts, x), place(leasts, y), place(leasts, least));
                    }
                }
            }
        }

        private static int leastBeside(Table t, int x, int h) {
            int beside = fromLeft(t, x, h);
            for (int a = 0; a < t.n; a++) {
                if (has(beside, a)) {
                    return a;
                }
            }
            return 0;
        }

        private static int place(int set, int a) {
            return Integer.bitCount(set & ((1 << a) - 1));
        }

        private static boolean has(int set, int a) {
            return (set >> a & 1) != 0;
        }

        private static int fromLeft(Table t, int a, int set) {
            int bits = 0;
            for (int b = 0; b < t.n; b++) {
                if (has(set, b)) {
                    bits |= 1 << t.times(a, b);
                }
            }
            return bits;
        }

        private static int fromRight(Table t, int set, int b) {
            int bits = 0;
            for (int a = 0; a < t.n; a++) {
                if (has(set, a)) {
                    bits |= 1 << t.times(a, b);
                }
            }
            return bits;
        }
    }

    /**
     * Counts THE GROUP of the turns without listing it. For each element i it keeps, for each j that
     * i can go to, one member that leaves all elements below i and takes i to j. When all products of
     * two kept ones can be undone by kept ones, the group has as many members as there are choices of
     * one kept for each i.
     */
    private static final class Turns {
        private static final int SIDE = MOST_ELEMENTS_FOR_GROUP;

        private int n;
        // Where each kept one takes each element, and from where it takes it.
        private final int[] images;
        private final int[] sources;
        // The j that i can go to by a kept one, as bits for each i.
        private final int[] reached;
        private final int[] kept;
        private int keptCount;
        private final int[] tried;

        Turns() {
            images = new int[SIDE * SIDE * SIDE];
            sources = new int[SIDE * SIDE * SIDE];
            reached = new int[SIDE];
            kept = new int[SIDE * SIDE];
            tried = new int[SIDE];
        }

        int count(Table t) {
            n = Math.min(t.n, SIDE);
            keptCount = 0;
            Arrays.fill(reached, 0);
            takeTurns(t);
            takeProducts();
            return countChoices();
        }

        private void takeTurns(Table t) {
            for (int a = 1; a < n; a++) {
                for (int x = 0; x < n; x++) {
                    tried[x] = t.times(a, x);
                }
                take();
                for (int x = 0; x < n; x++) {
                    tried[x] = t.times(x, a);
                }
                take();
            }
        }

        private void takeProducts() {
            for (int i = 0; i < keptCount && i < SIDE * SIDE; i++) {
                for (int j = 0; j <= i; j++) {
                    takeProduct(kept[i], kept[j]);
                    takeProduct(kept[j], kept[i]);
                }
            }
        }

        private void takeProduct(int place, int next) {
            for (int x = 0; x < n; x++) {
                tried[x] = read(images, next, read(images, place, x));
            }
            take();
        }

        // Undoes what is tried by kept ones, element by element, and keeps it where none can.
        private void take() {
            for (int i = 0; i < n; i++) {
                int j = tried[i];
                if (j != i && isBelow(j, SIDE)) {
                    if ((reached[i] >> j & 1) == 0) {
                        keep(i, j);
                        return;
                    }
                    undo(SIDE * i + j);
                }
            }
        }

        private void keep(int i, int j) {
            if (keptCount < SIDE * SIDE) {
                int place = SIDE * i + j;
                reached[i] |= 1 << j;
                for (int x = 0; x < n; x++) {
                    write(images, place, x, tried[x]);
                    write(sources, place, tried[x], x);
                }
                kept[keptCount] = place;
                keptCount++;
            }
        }

        private void undo(int place) {
            for (int x = 0; x < n; x++) {
                tried[x] = read(sources, place, tried[x]);
            }
        }

        private static int read(int[] rows, int place, int x) {
            int index = SIDE * place + x;
            return index >= 0 && index < rows.length ? rows[index] : x;
        }

        private static void write(int[] rows, int place, int x, int value) {
            int index = SIDE * place + x;
            if (index >= 0 && index < rows.length) {
                rows[index] = value;
            }
        }

        private int countChoices() {
            int choices = 1;
            for (int i = 0; i < n; i++) {
                choices *= 1 + Integer.bitCount(reached[i]);
            }
            return choices;
        }
    }

    /** Looks for renamings that leave 0: between two tables, and to the least table. */
    private static final class Renamings {
        final Table least;
        // The second table's element for each of the first's.
        private final int[] image;
        // The old element for each new name, and the new name for each old element.
        private final int[] named;
        private final int[] nameOf;
        private int sameAsLeast;

        Renamings() {
            least = new Table();
            image = new int[MOST_ELEMENTS];
            named = new int[MOST_ELEMENTS];
            nameOf = new int[MOST_ELEMENTS];
        }

        boolean areAlike(Table first, Table second) {
            image[0] = 0;
            return first.n == second.n && match(first, second, 1, 1);
        }

        boolean areAlikeByThree(Table first, Table second, Table other) {
            if (first.n != second.n) {
                return false;
            }
            for (int a = 0; a < first.n; a++) {
                for (int b = 0; b < first.n; b++) {
                    buildOther(first, a, b, other);
                    if (areAlike(other, second)) {
                        return true;
                    }
                }
            }
            return false;
        }

        // x . y = (x / b) (a \ y) says that u b . a v = u v; its unit a b changes names with 0.
        private static void buildOther(Table t, int a, int b, Table other) {
            int unit = t.times(a, b);
            other.restart(t.n);
            for (int u = 0; u < t.n; u++) {
                for (int v = 0; v < t.n; v++) {
                    int x = swap(t.times(u, b), unit);
                    int y = swap(t.times(a, v), unit);
                    other.put(x, y, swap(t.times(u, v), unit));
                }
            }
        }

        private static int swap(int x, int unit) {
            if (x == 0) {
                return unit;
            }
            return x == unit ? 0 : x;
        }

        // Elements below next have their images, taken as bits; next is the depth, 8 at most.
        private boolean match(Table first, Table second, int next, int taken) {
            if (next >= first.n || next >= MOST_ELEMENTS) {
                return true;
            }
            for (int v = 1; v < second.n; v++) {
                if ((taken >> v & 1) == 0) {
                    image[next] = v;
                    int then = taken | 1 << v;
                    if (agrees(first, second, next, then) && match(first, second, next + 1, then)) {
                        return true;
                    }
                }
            }
            return false;
        }

        private boolean agrees(Table first, Table second, int last, int taken) {
            for (int x = 1; x <= last; x++) {
                for (int y = 1; y <= last; y++) {
                    int product = first.times(x, y);
                    int found = second.times(image[x], image[y]);
                    boolean fits = isBelow(product, last + 1) ? image[product] == found : (taken >> found & 1) == 0;
                    if (!fits) {
                        return false;
                    }
                }
            }
            return true;
        }

        /** Finds THE NAME of t; tells how many renamings lead to it, which are as many as leave t. */
        int findLeast(Table t) {
            least.takeOver(t);
            sameAsLeast = 0;
            Arrays.fill(nameOf, Table.EMPTY);
            named[0] = 0;
            nameOf[0] = 0;
            giveNames(t, 1);
            return sameAsLeast;
        }

        // Names below next are given; next is the depth, 8 at most.
        private void giveNames(Table t, int next) {
            if (next >= t.n || next >= MOST_ELEMENTS) {
                keepRenamed(t);
                return;
            }
            for (int x = 1; x < t.n; x++) {
                if (nameOf[x] == Table.EMPTY) {
                    named[next] = x;
                    nameOf[x] = next;
                    if (compare(t, next + 1) <= 0) {
                        giveNames(t, next + 1);
                    }
                    nameOf[x] = Table.EMPTY;
                }
            }
        }

        // Below 0: all tables with the names given come before least; above 0: all behind it.
        private int compare(Table t, int given) {
            for (int i = 1; i < given; i++) {
                for (int j = 1; j < t.n; j++) {
                    if (j >= given) {
                        return 0;
                    }
                    int best = least.times(i, j);
                    int here = renamed(t, i, j);
                    if (here == Table.EMPTY) {
                        return given > best ? 1 : 0;
                    }
                    if (here != best) {
                        return here < best ? -1 : 1;
                    }
                }
            }
            return 0;
        }

        private int renamed(Table t, int i, int j) {
            int old = t.times(named[i], named[j]);
            return isBelow(old, MOST_ELEMENTS) ? nameOf[old] : Table.EMPTY;
        }

        private void keepRenamed(Table t) {
            if (compare(t, t.n) == 0) {
                sameAsLeast++;
                return;
            }
            sameAsLeast = 1;
            for (int i = 1; i < t.n; i++) {
                for (int j = 1; j < t.n; j++) {
                    least.put(i, j, renamed(t, i, j));
                }
            }
        }
    }

    /** SQUARES, each told as 512 a + 64 c + 8 b + d. */
    private static final class Squares {
        static int count(Table t) {
            int count = 0;
            for (int a = 1; a < t.n; a++) {
                for (int c = a + 1; c < t.n; c++) {
                    count += countInRows(t, a, c);
                }
            }
            return count;
        }

        static int find(Table t, int i) {
            int before = 0;
            for (int a = 1; a < t.n; a++) {
                for (int c = a + 1; c < t.n; c++) {
                    int here = countInRows(t, a, c);
                    if (i - before < here) {
                        return 512 * a + 64 * c + findColumns(t, a, c, i - before);
                    }
                    before += here;
                }
            }
            return NONE;
        }

        private static int countInRows(Table t, int a, int c) {
            int count = 0;
            for (int b = 1; b < t.n; b++) {
                for (int d = b + 1; d < t.n; d++) {
                    if (isSquare(t, a, c, b, d)) {
                        count++;
                    }
                }
            }
            return count;
        }

        private static int findColumns(Table t, int a, int c, int i) {
            int before = 0;
            for (int b = 1; b < t.n; b++) {
                for (int d = b + 1; d < t.n; d++) {
                    if (isSquare(t, a, c, b, d)) {
                        if (before == i) {
                            return 8 * b + d;
                        }
                        before++;
                    }
                }
            }
            return 0;
        }

        private static boolean isSquare(Table t, int a, int c, int b, int d) {
            return t.times(a, b) == t.times(c, d) && t.times(a, d) == t.times(c, b);
        }

        static void change(Table t, int square) {
            int a = square >> 9 & 7;
            int c = square >> 6 & 7;
            int b = square >> 3 & 7;
            int d = square & 7;
            int one = t.times(a, b);
            int other = t.times(a, d);
            t.put(a, b, other);
            t.put(c, d, other);
            t.put(a, d, one);
            t.put(c, b, one);
        }
    }

    /** Tables made of smaller ones. */
    private static final class Larger {
        static void buildDoubled(Table t, int signs, Table built) {
            built.restart(2 * t.n);
            for (int x = 0; x < built.n; x++) {
                for (int y = 0; y < built.n; y++) {
                    int a = x / 2;
                    int b = y / 2;
                    int sign = (x + y + signOf(signs, a, b)) % 2;
                    built.put(x, y, 2 * t.times(a, b) + sign);
                }
            }
        }

        private static int signOf(int signs, int a, int b) {
            return a == 0 || b == 0 ? 0 : signs >> (4 * a + b) & 1;
        }

        static void buildProduct(Table t, Table u, Table built) {
            int m = u.n;
            built.restart(t.n * m);
            for (int a = 0; a < t.n; a++) {
                for (int b = 0; b < m; b++) {
                    for (int c = 0; c < t.n; c++) {
                        for (int d = 0; d < m; d++) {
                            built.put(m * a + b, m * c + d, m * t.times(a, c) + u.times(b, d));
                        }
                    }
                }
            }
        }
    }
}
