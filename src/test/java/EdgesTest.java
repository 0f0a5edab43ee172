import java.util.Arrays;
import java.util.function.IntBinaryOperator;

/**
 * Each sentence of the document that names a boundary: too small, too large, empty, full, wrapped around, refused.
 * Every call is made on a new object, and all four tables are looked at behind it.
 */
public final class EdgesTest {
    private static final int BAD = LatinLaws.BAD, NO = LatinLaws.NO, NONE = LatinLaws.NONE;
    private static final int MIN = Integer.MIN_VALUE, MAX = Integer.MAX_VALUE;
    private static final int MOST_CALLS = 512;
    private static final int EMPTY = -1;
    private static final int[] ANY = {MIN, MAX};
    private static final String[] METHODS = {"table", "set", "at", "empty", "ways", "end", "divide", "law", "joining",
        "made", "parts", "normal", "left", "group", "alike", "name", "square", "turn", "doubled", "product", "size"};

    // All squares are 0; OTHER_FIVE is ALIKE to it BY THREE alone.
    private static final int[][] FIVE = rows(new int[][] {{0, 3, 4, 2}, {4, 0, 1, 3}, {2, 4, 0, 1}, {3, 1, 2, 0}});
    private static final int[][] OTHER_FIVE = rows(new int[][] {{0, 3, 4, 2}, {3, 4, 0, 1}, {4, 1, 2, 0}, {2, 0, 1, 3}});
    // All renamings of seven elements are in its GROUP.
    private static final int[][] SEVEN = rows(new int[][] {{0, 4, 2, 5, 6, 3}, {3, 1, 6, 0, 4, 5}, {4, 5, 1, 6, 0, 2},
        {6, 0, 5, 2, 3, 1}, {2, 6, 0, 3, 1, 4}, {5, 3, 4, 1, 2, 0}});
    // LEFT, MIDDLE, RIGHT JOINING are 0 with 4, with 5, with 1; 0 alone is CHANGING.
    private static final int[][] SIX = rows(new int[][] {{0, 4, 2, 5, 3}, {5, 3, 0, 1, 4}, {4, 0, 5, 2, 1},
        {3, 5, 1, 0, 2}, {2, 1, 4, 3, 0}});
    // By 0 and 3, x h = h x alone is broken.
    private static final int[][] ONE_SIDED = rows(new int[][] {{2, 0, 4, 5, 3}, {3, 1, 5, 0, 4}, {5, 4, 0, 2, 1},
        {0, 5, 1, 3, 2}, {4, 3, 2, 1, 0}});
    // By 0 and 1, (h x) y = h (x y) alone is broken.
    private static final int[][] HALF_NORMAL = rows(new int[][] {{0, 3, 2, 5, 4, 7, 6}, {3, 6, 7, 0, 1, 4, 5},
        {2, 0, 1, 7, 6, 5, 4}, {5, 1, 0, 6, 7, 2, 3}, {4, 7, 6, 1, 0, 3, 2}, {7, 5, 4, 3, 2, 0, 1}, {6, 4, 5, 2, 3, 1, 0}});

    private static int wrong = 0;
    private static int checks = 0;
    private static String sentence = "";

    // ---- what a test is made of

    private static void due(String what, int got, int want) {
        checks++;
        if (got != want) {
            wrong++;
            if (wrong <= 40) {
                System.out.println("'" + sentence + "': " + what + " answered " + got + ", due is " + want);
            }
        }
    }

    private static int call(LatinLaws x, String method, int... a) {
        return switch (method) {
            case "table" -> x.table(a[0], a[1]);
            case "set" -> x.set(a[0], a[1], a[2], a[3]);
            case "at" -> x.at(a[0], a[1], a[2]);
            case "empty" -> x.empty(a[0]);
            case "ways" -> x.ways(a[0], a[1]);
            case "end" -> x.end(a[0], a[1]);
            case "divide" -> x.divide(a[0], a[1], a[2], a[3]);
            case "law" -> x.law(a[0], a[1], a[2]);
            case "joining" -> x.joining(a[0], a[1]);
            case "made" -> x.made(a[0], a[1]);
            case "parts" -> x.parts(a[0], a[1]);
            case "normal" -> x.normal(a[0], a[1]);
            case "left" -> x.left(a[0], a[1], a[2]);
            case "group" -> x.group(a[0]);
            case "alike" -> x.alike(a[0], a[1], a[2] > 0);
            case "name" -> x.name(a[0], a[1]);
            case "square" -> x.square(a[0], a[1]);
            case "turn" -> x.turn(a[0], a[1]);
            case "doubled" -> x.doubled(a[0], a[1], a[2]);
            case "product" -> x.product(a[0], a[1], a[2]);
            case "size" -> x.size(a[0]);
            default -> throw new IllegalArgumentException(method);
        };
    }

    private static String told(String method, int... args) {
        return method + Arrays.toString(args);
    }

    /** The tables of a new object, made as told; those that are not told keep one element. */
    private static LatinLaws build(int[][][] tables) {
        LatinLaws x = new LatinLaws();
        for (int t = 0; t < 4; t++) {
            int n = tables[t].length;
            if (n > 1) {
                due(told("table", t, n), x.table(t, n), 0);
            }
            for (int a = 1; a < n; a++) {
                for (int b = 1; b < n; b++) {
                    if (tables[t][a][b] != EMPTY) {
                        due(told("set", t, a, b), x.set(t, a, b, tables[t][a][b]), NONE);
                    }
                }
            }
        }
        return x;
    }

    private static void look(String behind, LatinLaws x, int[][][] tables) {
        for (int t = 0; t < 4; t++) {
            int n = tables[t].length;
            due(told("size", t) + " behind " + behind, x.size(t), n);
            for (int a = 0; a < n; a++) {
                for (int b = 0; b < n; b++) {
                    int v = tables[t][a][b];
                    due(told("at", t, a, b) + " behind " + behind, x.at(t, a, b), v == EMPTY ? NONE : v);
                }
            }
        }
    }

    /** The call answers what is due, and no table changes. */
    private static void stays(int[][][] before, int want, String method, int... args) {
        LatinLaws x = build(before);
        due(told(method, args), call(x, method, args), want);
        look(told(method, args), x, before);
    }

    /** The call answers what is due, table s becomes what is told, and no other table changes. */
    private static void becomes(int[][][] before, int want, int s, int[][] after, String method, int... args) {
        LatinLaws x = build(before);
        due(told(method, args), call(x, method, args), want);
        int[][][] tables = before.clone();
        tables[s] = after;
        look(told(method, args), x, tables);
    }

    private static int[][] full(int n, IntBinaryOperator rule) {
        int[][] m = new int[n][n];
        for (int a = 0; a < n; a++) {
            for (int b = 0; b < n; b++) {
                m[a][b] = a == 0 ? b : b == 0 ? a : rule.applyAsInt(a, b);
            }
        }
        return m;
    }

    private static int[][] rows(int[][] cells) {
        return full(cells.length + 1, (a, b) -> cells[a - 1][b - 1]);
    }

    private static int[][] blank(int n) {
        return full(n, (a, b) -> EMPTY);
    }

    private static int[][] cyclic(int n) {
        return full(n, (a, b) -> (a + b) % n);
    }

    private static int[][] xor(int n) {
        return full(n, (a, b) -> a ^ b);
    }

    /** The six turns of a triangle: below 3 rotations, from 3 on mirrorings. */
    private static int[][] triangle() {
        return full(6, (a, b) -> (a < 3 ? a + b : a - b + 3) % 3 + (a < 3 == b < 3 ? 0 : 3));
    }

    private static int[][] mirrored(int[][] m) {
        return full(m.length, (a, b) -> m[b][a]);
    }

    private static int[][] but(int[][] m, int a, int b, int v) {
        return full(m.length, (x, y) -> x == a && y == b ? v : m[x][y]);
    }

    private static int[][][] four(int[][]... tables) {
        int[][][] all = {blank(1), blank(1), blank(1), blank(1)};
        System.arraycopy(tables, 0, all, 0, tables.length);
        return all;
    }

    private static int[][] renamed(int[][] m, int[] p) {
        int[][] out = new int[m.length][m.length];
        for (int a = 0; a < m.length; a++) {
            for (int b = 0; b < m.length; b++) {
                out[p[a]][p[b]] = p[m[a][b]];
            }
        }
        return out;
    }

    private static int under(int[][] m, int a, int c) {
        int b = 0;
        while (m[a][b] != c) {
            b++;
        }
        return b;
    }

    private static int over(int[][] m, int c, int b) {
        int a = 0;
        while (m[a][b] != c) {
            a++;
        }
        return a;
    }

    // ---- sentences about all calls

    /** The least and the greatest number that each argument may be, in tables of n elements. */
    private static int[][] ranges(String method, int n) {
        int[] t = {0, 3}, element = {0, n - 1}, inner = {1, n - 1}, two = {0, 1}, set = {0, (1 << n) - 1};
        return switch (method) {
            case "table" -> new int[][] {t, {1, 8}};
            case "set" -> new int[][] {t, inner, inner, {-1, n - 1}};
            case "at" -> new int[][] {t, element, element};
            case "ways" -> new int[][] {t, {1, 10000}};
            case "end", "name" -> new int[][] {t, t};
            case "divide" -> new int[][] {t, two, element, element};
            case "law" -> new int[][] {t, {0, 12}, two};
            case "joining" -> new int[][] {t, {0, 4}};
            case "made", "normal" -> new int[][] {t, set};
            case "parts" -> new int[][] {t, two};
            case "left" -> new int[][] {t, t, set};
            case "alike", "doubled" -> new int[][] {t, t, ANY};
            case "square" -> new int[][] {t, {-1, MAX}};
            case "turn" -> new int[][] {t, {0, MAX}};
            case "product" -> new int[][] {t, t, t};
            default -> new int[][] {t};
        };
    }

    private static int[] ends(int[][] ranges, int end) {
        return Arrays.stream(ranges).mapToInt(r -> r[end]).toArray();
    }

    private static int[] outside(int[] range) {
        int[] below = range[0] == MIN ? new int[0] : new int[] {MIN, range[0] - 1};
        int[] above = range[1] == MAX ? new int[0] : new int[] {range[1] + 1, MAX};
        int[] all = Arrays.copyOf(below, below.length + above.length);
        System.arraycopy(above, 0, all, below.length, above.length);
        return all;
    }

    /** One number out of its range is BAD, whatever else there is to refuse, and nothing changes. */
    private static void numbersThatAreNotTold() {
        sentence = "BAD: a number is none that is told. Of several the first; nothing changes then";
        int[][][][] rooms = {four(), same(cyclic(4)), same(but(cyclic(4), 3, 3, EMPTY)), same(blank(5)),
            same(cyclic(7)), same(blank(8))};
        for (int[][][] room : rooms) {
            for (String method : METHODS) {
                int[][] ranges = ranges(method, room[0].length);
                for (int k = 0; k < ranges.length; k++) {
                    for (int number : outside(ranges[k])) {
                        for (int end = 0; end < 2; end++) {
                            int[] args = ends(ranges, end);
                            args[k] = number;
                            stays(room, BAD, method, args);
                        }
                    }
                }
            }
        }
    }

    private static int[][][] same(int[][] m) {
        return new int[][][] {m, m, m, m};
    }

    private static void numbersThatAreTold() {
        sentence = "BAD: a number is none that is told";
        int[][][] room = four(cyclic(2), cyclic(2), cyclic(2), cyclic(2));
        for (String method : METHODS) {
            int[][] ranges = ranges(method, 2);
            for (int k = 0; k < ranges.length; k++) {
                for (int end = 0; end < 2; end++) {
                    int[] args = ends(ranges, 0);
                    args[k] = ranges[k][end];
                    // In two elements there is no SQUARE, and no PART without 0.
                    boolean noSuchThing = method.equals("turn")
                        || (method.equals("normal") || method.equals("left")) && args[args.length - 1] == 0;
                    due(told(method, args) + " is BAD", call(build(room), method, args) == BAD ? 1 : 0, noSuchThing ? 1 : 0);
                }
            }
        }
    }

    // Calls that need table 1 to be FULL; 0 is a table to write to, 2 one that is FULL.
    private static final String[] NEED = {"divide 1 0 0 0", "divide 1 1 0 0", "law 1 0 0", "law 1 12 1", "joining 1 0",
        "joining 1 4", "made 1 0", "made 1 1", "parts 1 0", "parts 1 1", "normal 1 1", "left 0 1 1", "left 1 1 1", "group 1",
        "alike 1 2 0", "alike 2 1 0", "alike 1 1 0", "alike 1 2 1", "alike 2 1 1", "alike 1 1 1", "name 0 1", "name 1 1",
        "square 1 -1", "square 1 0", "turn 1 0", "doubled 0 1 0", "doubled 1 1 0", "product 0 1 2", "product 0 2 1",
        "product 1 1 2"};

    private static void tablesThatAreNotFull() {
        sentence = "what needs one that is FULL tells NO else; nothing changes then";
        for (int n = 2; n <= 8; n++) {
            for (int a = 1; a < n; a++) {
                int b = n - a;
                for (String need : NEED) {
                    String[] words = need.split(" ");
                    int[] args = Arrays.stream(words).skip(1).mapToInt(Integer::parseInt).toArray();
                    stays(four(SIX, but(cyclic(n), a, b, EMPTY), cyclic(1)), NO, words[0], args);
                    stays(four(blank(3), blank(n), cyclic(1)), NO, words[0], args);
                }
            }
        }
    }

    private static void tablesThatNeedNotBeFull() {
        sentence = "FULL is a TABLE without empty cells; what needs one that is FULL tells NO else";
        int[][] partly = but(cyclic(3), 1, 2, EMPTY);
        stays(four(partly), 3, "size", 0);
        stays(four(partly), 1, "empty", 0);
        stays(four(partly), NONE, "at", 0, 1, 2);
        stays(four(partly), 1, "ways", 0, 5);
        becomes(four(partly), 1, 1, cyclic(3), "end", 1, 0);
        becomes(four(partly), NONE, 0, cyclic(3), "set", 0, 1, 2, 0);
        sentence = "TABLE s becomes: it need not be FULL";
        int[][][] room = four(cyclic(2), blank(7));
        becomes(room, 1, 1, cyclic(2), "end", 1, 0);
        becomes(room, 1, 1, cyclic(1), "left", 1, 0, 3);
        becomes(room, 1, 1, cyclic(2), "name", 1, 0);
        becomes(room, 4, 1, xor(4), "doubled", 1, 0, 0);
        becomes(room, 4, 1, xor(4), "product", 1, 0, 0);
        sentence = "FULL is a TABLE without empty cells (one ELEMENT has none)";
        stays(four(), 0, "divide", 0, 0, 0, 0);
        stays(four(), 0, "divide", 0, 1, 0, 0);
        stays(four(), 1, "parts", 0, 0);
        stays(four(), 0, "square", 3, -1);
    }

    private static void callsOfOneObject() {
        sentence = "An object is used for at most 512 calls";
        LatinLaws x = new LatinLaws();
        x.table(0, 2);
        for (int calls = 1; calls < MOST_CALLS; calls++) {
            due("call " + (calls + 1), x.set(0, 1, 1, calls % 2 == 1 ? 0 : -1), calls % 2 == 1 ? NONE : 0);
        }
        sentence = "An object: its tables are its own";
        LatinLaws other = new LatinLaws();
        LatinLaws third = new LatinLaws();
        other.table(0, 8);
        look("table of another object", third, four());
        look("table of another object", new LatinLaws(), four());
    }

    /** Nothing of one call is left in the next one: larger ones, smaller ones and refused ones by turns. */
    private static void callsBehindOthers() {
        sentence = "the answers and state changes described above, call behind call";
        LatinLaws x = build(four(blank(6), blank(5), stuckTables()[1], triangle()));
        int[] ways = {9408, 56, 0, 1};
        for (int k = 0; k < 12; k++) {
            int t = k * 7 % 4;
            due(told("ways", t, 10000), x.ways(t, 10000), ways[t]);
            due(told("ways", t, 1), x.ways(t, 1), Math.min(1, ways[t]));
        }
        due("end of stuck", x.end(1, 2), 0);
        look("end of stuck", x, four(blank(6), blank(5), stuckTables()[1], triangle()));
        due("end of FULL", x.end(1, 3), 1);
        due("end of stuck", x.end(0, 2), 0);
        look("end of stuck", x, four(blank(6), triangle(), stuckTables()[1], triangle()));
        LatinLaws y = build(four(SEVEN, cyclic(7), xor(4), cyclic(2)));
        int[] same = {1, 6, 6, 1};
        for (int k = 0; k < 12; k++) {
            int t = k * 7 % 4;
            due(told("name", t, t), y.name(t, t), same[t]);
            due(told("alike", t, t, 0), y.alike(t, t, false), 1);
            due(told("alike", t, t, 1), y.alike(t, t, true), t < 2 ? NO : 1);
        }
    }

    // ---- promises 1 to 7

    private static void newObject() {
        sentence = "1 at first; TABLES of one ELEMENT";
        look("nothing", new LatinLaws(), four());
        for (int t = 0; t < 4; t++) {
            stays(four(), 0, "empty", t);
            stays(four(), 1, "ways", t, 1);
            stays(four(), 1, "ways", t, 10000);
            stays(four(), 1, "end", t, 3 - t);
            stays(four(), 1, "group", t);
            stays(four(), 1, "alike", t, 3 - t, 0);
            stays(four(), 1, "alike", t, 3 - t, 1);
            stays(four(), 1, "name", t, 3 - t);
            stays(four(), 1, "left", t, 3 - t, 1);
            stays(four(), 1, "product", t, t, 3 - t);
            stays(four(), BAD, "set", t, 0, 0, 0);
            stays(four(), BAD, "set", t, 1, 1, 0);
            stays(four(), BAD, "set", t, 1, 1, -1);
            stays(four(), BAD, "at", t, 0, 1);
            stays(four(), BAD, "made", t, 2);
        }
    }

    private static void table() {
        sentence = "A TABLE of n ELEMENTS (1 to 8), cells empty: 0";
        for (int t = 0; t < 4; t++) {
            for (int n = 1; n <= 8; n++) {
                becomes(same(cyclic(n)), 0, t, blank(n), "table", t, n);
                becomes(same(cyclic(9 - n)), 0, t, blank(n), "table", t, n);
            }
        }
        sentence = "(1 to 8)";
        for (int n : new int[] {0, 9, -1, 10, 16, MIN, MAX}) {
            stays(same(cyclic(8)), BAD, "table", 3, n);
        }
    }

    private static void set() {
        sentence = "no ELEMENT is twice in a row or a column (row, column 0 with them)";
        for (int n = 2; n <= 8; n++) {
            for (int v = 0; v < n; v++) {
                for (int a = 1; a < n; a++) {
                    setInBlank(n, a, n - a, v);
                    setInBlank(n, a, a, v);
                }
            }
        }
        sentence = "NO: v is in that row or column already";
        int[][] m = but(but(blank(5), 2, 3, 4), 3, 2, 1);
        stays(four(m), NO, "set", 0, 2, 1, 4);
        stays(four(m), NO, "set", 0, 2, 4, 4);
        stays(four(m), NO, "set", 0, 1, 3, 4);
        stays(four(m), NO, "set", 0, 4, 3, 4);
        stays(four(but(m, 2, 2, 0)), NO, "set", 0, 2, 2, 4);
        stays(four(but(m, 2, 2, 0)), NO, "set", 0, 2, 2, 1);
        becomes(four(m), NONE, 0, but(m, 3, 4, 0), "set", 0, 3, 4, 0);
        sentence = "NO: v is in that row already (in that very cell)";
        stays(four(m), NO, "set", 0, 2, 3, 4);
        sentence = "NO: v is in that row or column already (FULL)";
        for (int v = 0; v < 5; v++) {
            stays(four(FIVE), NO, "set", 0, 1 + v % 4, 4, v);
        }
        sentence = "A cell (a, b above 0)";
        stays(four(m), BAD, "set", 0, 0, 1, 1);
        stays(four(m), BAD, "set", 0, 1, 0, 1);
        stays(four(m), BAD, "set", 0, 0, 0, 0);
        stays(four(m), BAD, "set", 0, 0, 1, -1);
        stays(four(m), BAD, "set", 0, 1, 0, -1);
        sentence = "becomes v (-1: empty): what it was (NONE)";
        becomes(four(m), 4, 0, but(m, 2, 3, EMPTY), "set", 0, 2, 3, -1);
        becomes(four(m), 4, 0, but(m, 2, 3, 0), "set", 0, 2, 3, 0);
        stays(four(m), NONE, "set", 0, 1, 1, -1);
        becomes(four(FIVE), 0, 0, but(FIVE, 4, 4, EMPTY), "set", 0, 4, 4, -1);
        for (int v : new int[] {-2, NONE, MIN, 5, 8, MAX}) {
            stays(four(m), BAD, "set", 0, 1, 1, v);
            stays(four(FIVE), BAD, "set", 0, 1, 1, v);
        }
        setAgain();
    }

    private static void setInBlank(int n, int a, int b, int v) {
        if (v == a || v == b) {
            stays(four(blank(n)), NO, "set", 0, a, b, v);
        } else {
            becomes(four(blank(n)), NONE, 0, but(blank(n), a, b, v), "set", 0, a, b, v);
        }
    }

    private static void setAgain() {
        sentence = "what it was; NO: v is in that row or column already (no more)";
        LatinLaws x = build(four(blank(4)));
        due("set", x.set(0, 1, 1, 2), NONE);
        due("set another", x.set(0, 1, 1, 3), 2);
        due("2 in that row", x.set(0, 1, 3, 2), NONE);
        due("3 in that column", x.set(0, 2, 1, 3), NO);
        due("set empty", x.set(0, 1, 1, -1), 3);
        due("3 in that column", x.set(0, 2, 1, 3), NONE);
        due("empty", x.empty(0), 7);
    }

    private static void at() {
        sentence = "0 a and a 0 are a. A cell. NONE: empty";
        for (int n = 1; n <= 8; n++) {
            for (int a = 0; a < n; a++) {
                stays(four(blank(n)), a, "at", 0, a, 0);
                stays(four(blank(n)), a, "at", 0, 0, a);
                stays(four(blank(n)), a == 0 ? n - 1 : NONE, "at", 0, a, n - 1);
            }
            stays(same(cyclic(n)), BAD, "at", 1, n, 0);
            stays(same(cyclic(n)), BAD, "at", 1, 0, n);
            stays(same(cyclic(n)), BAD, "at", 1, -1, n - 1);
            stays(same(cyclic(n)), BAD, "at", 1, n - 1, -1);
        }
    }

    private static void empty() {
        sentence = "Cells that are empty";
        for (int n = 1; n <= 8; n++) {
            stays(four(blank(n)), (n - 1) * (n - 1), "empty", 0);
            stays(four(cyclic(n)), 0, "empty", 0);
        }
        stays(four(but(SEVEN, 6, 6, EMPTY)), 1, "empty", 0);
        stays(four(but(blank(7), 6, 6, 0)), 35, "empty", 0);
    }

    private static void ways() {
        sentence = "counted to most (1 to 10000) at most";
        int[] known = {1, 1, 1, 4, 56, 9408};
        for (int n = 1; n <= 6; n++) {
            int all = known[n - 1];
            for (int most : new int[] {1, all - 1, all, all + 1, 9999, 10000}) {
                stays(four(blank(n)), most == 0 ? BAD : Math.min(most, all), "ways", 0, most);
            }
            for (int most : new int[] {0, -1, MIN, 10001, MAX}) {
                stays(four(blank(n)), BAD, "ways", 0, most);
            }
        }
        sentence = "WAYS to end it: how many FULL TABLES have its cells as they are (none, itself)";
        for (int most : new int[] {1, 2, 10000}) {
            for (int[][] stuck : stuckTables()) {
                stays(four(stuck), 0, "ways", 0, most);
            }
            stays(four(triangle()), 1, "ways", 0, most);
            stays(four(but(SIX, 5, 5, EMPTY)), 1, "ways", 0, most);
        }
        for (int a = 1; a < 5; a++) {
            int[][] started = but(but(blank(5), a, 5 - a, 0), 5 - a, 5 - a, a);
            stays(four(started), waysOf(started), "ways", 0, 10000);
        }
        sentence = "NO: n above 6";
        for (int n = 7; n <= 8; n++) {
            stays(four(blank(n)), NO, "ways", 0, 1);
            stays(four(cyclic(n)), NO, "ways", 0, 10000);
            stays(four(blank(n)), BAD, "ways", 0, 0);
            stays(four(cyclic(n)), BAD, "ways", 0, 10001);
        }
    }

    /** Tables that can't be ended; but for the first, each empty cell by itself has an element that is free for it. */
    private static int[][][] stuckTables() {
        return new int[][][] {but(blank(3), 1, 1, 0), but(but(blank(4), 1, 3, 2), 3, 1, 0),
            but(but(but(blank(5), 1, 1, 2), 2, 2, 0), 4, 4, 1),
            but(but(but(but(blank(6), 1, 4, 2), 4, 5, 2), 5, 3, 1), 3, 3, 4)};
    }

    /** Looks at one empty cell behind the other, and at each element in it. */
    private static int waysOf(int[][] m) {
        for (int a = 1; a < m.length; a++) {
            for (int b = 1; b < m.length; b++) {
                if (m[a][b] == EMPTY) {
                    int count = 0;
                    for (int v = 0; v < m.length; v++) {
                        count += isFree(m, a, b, v) ? waysOf(but(m, a, b, v)) : 0;
                    }
                    return count;
                }
            }
        }
        return 1;
    }

    private static boolean isFree(int[][] m, int a, int b, int v) {
        for (int k = 0; k < m.length; k++) {
            if (m[a][k] == v || m[k][b] == v) {
                return false;
            }
        }
        return true;
    }

    private static void end() {
        sentence = "The first FULL one of these, cell by cell, the lesser ELEMENT first";
        for (int n = 1; n <= 6; n++) {
            checkFirstEnding(blank(n));
        }
        checkFirstEnding(but(blank(5), 4, 4, 3));
        checkFirstEnding(but(but(blank(6), 1, 1, 5), 3, 2, 0));
        sentence = "comes to TABLE s: 1";
        int[][] open = but(cyclic(4), 3, 3, EMPTY);
        for (int n = 1; n <= 8; n++) {
            becomes(four(open, cyclic(n)), 1, 1, cyclic(4), "end", 1, 0);
            becomes(four(open, blank(n)), 1, 1, cyclic(4), "end", 1, 0);
        }
        becomes(four(open), 1, 0, cyclic(4), "end", 0, 0);
        becomes(four(SIX), 1, 3, SIX, "end", 3, 0);
        sentence = "0: there is none, s stays";
        for (int[][] stuck : stuckTables()) {
            for (int s = 0; s < 4; s++) {
                stays(four(stuck, SEVEN, blank(3), cyclic(6)), 0, "end", s, 0);
            }
        }
        sentence = "NO: n above 6";
        for (int n = 7; n <= 8; n++) {
            stays(four(SIX, blank(n)), NO, "end", 0, 1);
            stays(four(SIX, cyclic(n)), NO, "end", 0, 1);
            stays(four(SIX, blank(n)), NO, "end", 1, 1);
            stays(four(SIX, blank(n)), BAD, "end", 4, 1);
        }
    }

    /** No cell of the ending can be lesser with the cells before it as they are. */
    private static void checkFirstEnding(int[][] open) {
        LatinLaws x = build(four(open));
        due("end", x.end(1, 0), 1);
        due("it is FULL", x.empty(1), 0);
        int n = open.length;
        int[][] ending = full(n, (a, b) -> x.at(1, a, b));
        int[][] sofar = open;
        for (int a = 1; a < n; a++) {
            for (int b = 1; b < n; b++) {
                if (open[a][b] == EMPTY) {
                    for (int v = 0; v < ending[a][b]; v++) {
                        if (isFree(sofar, a, b, v)) {
                            stays(four(but(sofar, a, b, v)), 0, "ways", 0, 1);
                        }
                    }
                    sofar = but(sofar, a, b, ending[a][b]);
                }
            }
        }
        becomes(four(open), 1, 1, sofar, "end", 1, 0);
    }

    // ---- promises 8 to 15

    private static void divide() {
        sentence = "a \\ c is the b with a b = c, c / b the a with a b = c";
        for (int[][] m : new int[][][] {cyclic(1), cyclic(2), SIX, HALF_NORMAL}) {
            int last = m.length - 1;
            for (int a = 0; a <= last; a += Math.max(1, last)) {
                for (int b = 0; b <= last; b++) {
                    stays(four(m), b, "divide", 0, 0, a, m[a][b]);
                    stays(four(m), a, "divide", 0, 1, b, m[a][b]);
                }
            }
            stays(four(m), BAD, "divide", 0, 0, last + 1, 0);
            stays(four(m), BAD, "divide", 0, 0, 0, last + 1);
            stays(four(m), BAD, "divide", 0, 1, -1, 0);
            stays(four(m), BAD, "divide", 0, 1, 0, -1);
            stays(four(m), BAD, "divide", 0, 2, 0, 0);
            stays(four(m), BAD, "divide", 0, -1, 0, 0);
        }
        sentence = "divide: NO (a table that is not FULL, though the row has c)";
        stays(four(but(SIX, 5, 5, EMPTY)), NO, "divide", 0, 0, 1, 4);
        stays(four(but(SIX, 5, 5, EMPTY)), NO, "divide", 0, 1, 1, 4);
        stays(four(but(SIX, 5, 5, EMPTY)), BAD, "divide", 0, 1, 1, 6);
    }

    private static void law() {
        sentence = "the first CASE that breaks it (NONE), how many do";
        for (int law = 0; law <= 12; law++) {
            for (int n = 1; n <= 2; n++) {
                stays(four(cyclic(n)), NONE, "law", 0, law, 0);
                stays(four(cyclic(n)), 0, "law", 0, law, 1);
            }
            stays(four(xor(8)), NONE, "law", 0, law, 0);
            stays(four(xor(8)), 0, "law", 0, law, 1);
        }
        sentence = "Of a LAW (0 to 12)";
        for (int law : new int[] {-1, 13, MIN, MAX}) {
            stays(four(xor(8)), BAD, "law", 0, law, 0);
            stays(four(blank(8)), BAD, "law", 0, law, 1);
        }
        sentence = "what = 0, 1";
        for (int what : new int[] {-1, 2, MIN, MAX}) {
            stays(four(xor(8)), BAD, "law", 0, 0, what);
            stays(four(blank(8)), BAD, "law", 0, 12, what);
        }
        sentence = "CASES are x, y, z (0, where it has none), as numbers n n x + n y + z";
        int[][] lateSquare = rows(new int[][] {{0, 3, 2}, {3, 1, 0}, {2, 0, 1}});
        stays(four(lateSquare), 2 * 16, "law", 0, 11, 0);
        stays(four(lateSquare), 2, "law", 0, 11, 1);
        stays(four(OTHER_FIVE), 2 * 25, "law", 0, 8, 0);
        stays(four(OTHER_FIVE), 3, "law", 0, 8, 1);
        lawsThatPart();
    }

    // Two laws of which the second does not follow from the first are told apart by some row: a base (0: xor of
    // four, 1: cyclic of four), the SIGNS that double it, then for each LAW the first CASE and how many.
    private static final int[][] LAW_ROWS = {
        {0, 192, 160, 16, 164, 96, 272, 16, -4, 0, 272, 16, -4, 0, 164, 160, 272, 128, -4, 0, -4, 0, 272, 16, -4, 0, 160, 96},
        {0, 544, 160, 8, 148, 96, 160, 16, 160, 16, -4, 0, 132, 160, -4, 0, 132, 160, -4, 0, 160, 16, -4, 0, 128, 2, 132, 160},
        {0, 576, -4, 0, 148, 96, -4, 0, 160, 16, 160, 16, 132, 160, 132, 160, 132, 160, -4, 0, 160, 16, 160, 16, -4, 0, 132, 96},
        {0, 2720, 160, 24, -4, 0, -4, 0, -4, 0, -4, 0, -4, 0, -4, 0, -4, 0, -4, 0, -4, 0, -4, 0, 128, 2, 160, 192},
        {1, 160, 176, 8, 162, 96, 160, 16, -4, 0, 160, 16, 146, 64, 132, 160, 146, 128, 128, 4, 128, 16, 128, 16, 128, 4, 160, 96},
        {1, 1728, 176, 8, 148, 96, 160, 16, 160, 16, -4, 0, 132, 160, 146, 64, 132, 160, 128, 4, 128, 16, 128, 16, 128, 6, 132, 160},
        {0, 1632, -4, 0, -4, 0, -4, 0, -4, 0, -4, 0, -4, 0, -4, 0, -4, 0, -4, 0, -4, 0, -4, 0, 128, 4, -4, 0},
        {1, 1088, 160, 8, 146, 96, 144, 16, 144, 16, 144, 16, 130, 144, 130, 96, 130, 144, -4, 0, 160, 16, -4, 0, 128, 6, 130, 160},
        {1, 1536, 160, 8, 146, 96, 144, 16, 144, 16, 144, 16, 130, 96, 130, 144, 130, 128, -4, 0, -4, 0, 160, 16, 128, 6, 130, 160}};

    private static void lawsThatPart() {
        for (int[] row : LAW_ROWS) {
            int[][] m = doubledBy(row[0] == 0 ? xor(4) : cyclic(4), row[1]);
            for (int law = 0; law <= 12; law++) {
                stays(four(m), row[2 + 2 * law], "law", 0, law, 0);
                stays(four(m), row[3 + 2 * law], "law", 0, law, 1);
            }
        }
    }

    private static void joining() {
        sentence = "As bits: LEFT (0), MIDDLE (1), RIGHT JOINING (2), CHANGING (3), THE MIDST (4)";
        int[] six = {1 | 1 << 4, 1 | 1 << 5, 1 | 1 << 1, 1, 1};
        int[][] changing = rows(new int[][] {{4, 3, 2, 0}, {3, 0, 4, 1}, {0, 4, 1, 2}, {2, 1, 0, 3}});
        int[] two = {1, 1, 1, 1 | 1 << 2, 1};
        int[][] quaternions = doubledBy(xor(4), 1 << 5 | 1 << 10 | 1 << 15 | 1 << 9 | 1 << 14 | 1 << 7);
        int[] eight = {255, 255, 255, 3, 3};
        for (int what = 0; what <= 4; what++) {
            stays(four(SIX), six[what], "joining", 0, what);
            stays(four(changing), two[what], "joining", 0, what);
            stays(four(quaternions), eight[what], "joining", 0, what);
            stays(four(xor(8)), 255, "joining", 0, what);
            stays(four(cyclic(1)), 1, "joining", 0, what);
        }
        for (int what : new int[] {-1, 5, MIN, MAX}) {
            stays(four(SIX), BAD, "joining", 0, what);
            stays(four(blank(6)), BAD, "joining", 0, what);
        }
    }

    private static void made() {
        sentence = "MADE by a set is the least PART with it (none, 0 alone, all)";
        for (int n = 1; n <= 8; n++) {
            int all = (1 << n) - 1;
            stays(four(cyclic(n)), 1, "made", 0, 0);
            stays(four(cyclic(n)), 1, "made", 0, 1);
            stays(four(cyclic(n)), all, "made", 0, all);
            stays(four(cyclic(n)), all, "made", 0, all - 1);
            stays(four(cyclic(n)), all, "made", 0, 1 << n - 1);
            sentence = "made: BAD (no such ELEMENT)";
            for (int set : new int[] {all + 1, 2 * all + 1, -1, MIN, MAX}) {
                stays(four(cyclic(n)), BAD, "made", 0, set);
                stays(four(blank(n)), BAD, "made", 0, set);
            }
        }
        sentence = "A PART is a set with 0 that has a b, a \\ b, b / a with a, b";
        stays(four(xor(8)), 1 | 1 << 6, "made", 0, 1 << 6);
        stays(four(xor(8)), 1 | 1 << 3 | 1 << 5 | 1 << 6, "made", 0, 1 << 3 | 1 << 5);
        stays(four(SIX), 1 | 1 << 1, "made", 0, 1 << 1);
        stays(four(SEVEN), partWith(SEVEN, 1 << 1), "made", 0, 1 << 1);
        stays(four(SEVEN), partWith(SEVEN, 1 << 6), "made", 0, 1 << 6);
    }

    private static boolean isPart(int[][] m, int set) {
        boolean is = (set & 1) == 1;
        for (int a = 0; a < m.length; a++) {
            for (int b = 0; b < m.length; b++) {
                int needed = 1 << m[a][b] | 1 << under(m, a, b) | 1 << over(m, b, a);
                is &= (set >> a & set >> b & 1) == 0 || (set & needed) == needed;
            }
        }
        return is;
    }

    private static int partWith(int[][] m, int set) {
        int least = (1 << m.length) - 1;
        for (int part = 0; part < 1 << m.length; part++) {
            least &= isPart(m, part) && (part & set) == set ? part : -1;
        }
        return least;
    }

    private static void parts() {
        sentence = "How many PARTS there are (what = 0), NORMAL ones (1)";
        int[] divisors = {1, 2, 2, 3, 2, 4, 2, 4};
        for (int n = 1; n <= 8; n++) {
            stays(four(cyclic(n)), divisors[n - 1], "parts", 0, 0);
            stays(four(cyclic(n)), divisors[n - 1], "parts", 0, 1);
        }
        stays(four(xor(8)), 16, "parts", 0, 0);
        stays(four(xor(8)), 16, "parts", 0, 1);
        stays(four(triangle()), 6, "parts", 0, 0);
        stays(four(triangle()), 3, "parts", 0, 1);
        for (int what : new int[] {-1, 2, MIN, MAX}) {
            stays(four(SIX), BAD, "parts", 0, what);
            stays(four(blank(6)), BAD, "parts", 0, what);
        }
    }

    private static void normal() {
        sentence = "1: a PART is NORMAL; 0";
        for (int[][] m : new int[][][] {cyclic(1), cyclic(2), FIVE, SIX, SEVEN, HALF_NORMAL}) {
            stays(four(m), 1, "normal", 0, 1);
            stays(four(m), 1, "normal", 0, (1 << m.length) - 1);
        }
        sentence = "x h = h x, x (y h) = (x y) h, (h x) y = h (x y): one of them is broken";
        stays(four(ONE_SIDED), 0, "normal", 0, 1 | 1 << 3);
        stays(four(HALF_NORMAL), 0, "normal", 0, 3);
        stays(four(mirrored(HALF_NORMAL)), 0, "normal", 0, 3);
        sentence = "BAD: a set that is no PART";
        int[][] m = triangle();
        for (int set = 0; set < 64; set++) {
            if (!isPart(m, set)) {
                stays(four(m), BAD, "normal", 0, set);
            }
        }
        for (int set : new int[] {64, 65, 127, -1, -63, MIN, MIN + 1, MAX}) {
            stays(four(m), BAD, "normal", 0, set);
            stays(four(blank(6)), BAD, "normal", 0, set);
        }
        stays(four(), BAD, "normal", 0, 0);
        stays(four(xor(8)), BAD, "normal", 0, 254);
        stays(four(xor(8)), BAD, "normal", 0, 256);
        stays(four(xor(8)), BAD, "normal", 0, 257);
    }

    private static void left() {
        sentence = "sets x h by their least ELEMENTS, in order, named 0, 1, ..: the table of these";
        for (int[][] m : new int[][][] {cyclic(1), cyclic(2), FIVE, SIX, SEVEN, HALF_NORMAL}) {
            becomes(four(m, xor(8)), m.length, 1, m, "left", 1, 0, 1);
            becomes(four(m, xor(8)), 1, 1, cyclic(1), "left", 1, 0, (1 << m.length) - 1);
            becomes(four(m), m.length, 0, m, "left", 0, 0, 1);
            becomes(four(m), 1, 0, cyclic(1), "left", 0, 0, (1 << m.length) - 1);
        }
        becomes(four(cyclic(8), blank(5)), 4, 1, cyclic(4), "left", 1, 0, 1 | 1 << 4);
        becomes(four(cyclic(8)), 2, 0, cyclic(2), "left", 0, 0, 1 | 1 << 2 | 1 << 4 | 1 << 6);
        becomes(four(xor(8)), 4, 2, xor(4), "left", 2, 0, 1 | 1 << 7);
        becomes(four(xor(8)), 2, 2, cyclic(2), "left", 2, 0, 1 | 1 << 3 | 1 << 5 | 1 << 6);
        becomes(four(triangle()), 2, 3, cyclic(2), "left", 3, 0, 7);
        sentence = "left: NO: not NORMAL, too; nothing changes then";
        stays(four(ONE_SIDED, SIX), NO, "left", 1, 0, 1 | 1 << 3);
        stays(four(ONE_SIDED), NO, "left", 0, 0, 1 | 1 << 3);
        stays(four(HALF_NORMAL, SIX), NO, "left", 1, 0, 3);
        stays(four(mirrored(HALF_NORMAL), SIX), NO, "left", 1, 0, 3);
        stays(four(triangle(), blank(3)), NO, "left", 1, 0, 9);
        sentence = "left: BAD (no PART, no TABLE s); of several the first; nothing changes then";
        for (int set : new int[] {0, 2, 3, 6, 62, 64, 71, -1, MIN, MAX}) {
            stays(four(triangle(), SIX), BAD, "left", 1, 0, set);
            stays(four(triangle(), SIX), BAD, "left", 0, 0, set);
        }
        stays(four(triangle()), BAD, "left", 4, 0, 9);
        stays(four(triangle()), BAD, "left", -1, 0, 9);
        stays(four(blank(6)), BAD, "left", 4, 0, 1);
        stays(four(blank(6)), BAD, "left", 1, 0, 64);
    }

    // Tables of six elements without their units, and how many their GROUPS have.
    private static final int[][][] SIXES = {
        {{4, 5, 2, 0, 3}, {5, 1, 0, 3, 4}, {2, 0, 4, 5, 1}, {0, 3, 5, 1, 2}, {3, 4, 1, 2, 0}},
        {{4, 3, 0, 5, 2}, {3, 4, 5, 0, 1}, {5, 0, 2, 1, 4}, {0, 5, 1, 2, 3}, {2, 1, 4, 3, 0}},
        {{3, 4, 0, 5, 2}, {5, 1, 4, 3, 0}, {0, 5, 1, 2, 4}, {2, 3, 5, 0, 1}, {4, 0, 2, 1, 3}},
        {{3, 4, 5, 2, 0}, {5, 0, 4, 1, 3}, {4, 5, 1, 0, 2}, {0, 3, 2, 5, 1}, {2, 1, 0, 3, 4}},
        {{3, 4, 0, 5, 2}, {0, 1, 5, 3, 4}, {4, 5, 2, 1, 0}, {5, 0, 1, 2, 3}, {2, 3, 4, 0, 1}},
        {{2, 4, 0, 5, 3}, {4, 5, 1, 3, 0}, {5, 1, 4, 0, 2}, {0, 3, 5, 2, 1}, {3, 0, 2, 1, 4}}};
    private static final int[] GROUPS_OF_SIXES = {6, 24, 72, 360, 720, 720};

    private static void group() {
        sentence = "THE GROUP (n 7 at most)";
        for (int n = 1; n <= 7; n++) {
            stays(four(cyclic(n)), n, "group", 0);
        }
        stays(four(triangle()), 36, "group", 0);
        stays(four(FIVE), 120, "group", 0);
        stays(four(SEVEN), 5040, "group", 0);
        for (int k = 0; k < SIXES.length; k++) {
            stays(four(rows(SIXES[k])), GROUPS_OF_SIXES[k], "group", 0);
        }
        sentence = "group: NO: n above 7, too";
        stays(four(cyclic(8)), NO, "group", 0);
        stays(four(xor(8)), NO, "group", 0);
        stays(four(blank(8)), NO, "group", 0);
        stays(four(but(SEVEN, 6, 6, EMPTY)), NO, "group", 0);
        sentence = "THE GROUP (of one table behind that of another)";
        LatinLaws x = build(four(SEVEN, cyclic(7), cyclic(2)));
        due("group", x.group(0), 5040);
        due("group", x.group(1), 7);
        due("group", x.group(2), 2);
        due("group", x.group(3), 1);
        due("group", x.group(0), 5040);
    }

    // ---- promises 16 to 22

    private static void alike() {
        sentence = "ALIKE are two FULL TABLES, if some renaming makes one the other one (another n)";
        for (int n = 1; n <= 8; n++) {
            for (int m = 1; m <= 8; m++) {
                stays(four(cyclic(n), cyclic(m)), n == m ? 1 : 0, "alike", 0, 1, 0);
            }
        }
        sentence = "ALIKE BY THREE (n 6 at most); NO (three: n above 6, too)";
        for (int n = 1; n <= 8; n++) {
            for (int m = 1; m <= 8; m++) {
                int want = Math.max(n, m) > 6 ? NO : n == m ? 1 : 0;
                stays(four(cyclic(n), cyclic(m)), want, "alike", 0, 1, 1);
            }
            stays(same(cyclic(n)), n > 6 ? NO : 1, "alike", 2, 2, 1);
            stays(same(cyclic(n)), 1, "alike", 2, 2, 0);
        }
        sentence = "ALIKE: 0 staying";
        stays(four(cyclic(4), xor(4)), 0, "alike", 0, 1, 0);
        stays(four(cyclic(4), xor(4)), 0, "alike", 0, 1, 1);
        stays(four(cyclic(8), xor(8)), 0, "alike", 0, 1, 0);
        stays(four(SEVEN, renamed(SEVEN, new int[] {0, 6, 5, 4, 3, 2, 1})), 1, "alike", 0, 1, 0);
        int[][] eight = renamed(HALF_NORMAL, new int[] {0, 2, 3, 4, 5, 6, 7, 1});
        stays(four(HALF_NORMAL, eight), 1, "alike", 0, 1, 0);
        stays(four(HALF_NORMAL, mirrored(eight)), 0, "alike", 0, 1, 0);
        sentence = "for elements a, b of it, x . y = (x / b) (a \\ y), whose unit is a b";
        stays(four(FIVE, OTHER_FIVE), 0, "alike", 0, 1, 0);
        stays(four(FIVE, OTHER_FIVE), 1, "alike", 0, 1, 1);
        stays(four(FIVE, OTHER_FIVE), 1, "alike", 1, 0, 1);
        stays(four(FIVE, cyclic(5)), 0, "alike", 0, 1, 1);
        for (int[][] m : new int[][][] {cyclic(2), cyclic(3), FIVE, SIX, triangle()}) {
            for (int a = 0; a < m.length; a++) {
                for (int b = 0; b < m.length; b++) {
                    stays(four(m, byThree(m, a, b)), 1, "alike", 0, 1, 1);
                    stays(four(m, byThree(m, a, b)), 1, "alike", 1, 0, 1);
                }
            }
        }
        for (int a = 0; a < 6; a++) {
            stays(four(triangle(), byThree(triangle(), a, 5 - a)), 1, "alike", 0, 1, 0);
        }
    }

    /** x . y = (x / b) (a \ y), its unit a b changing names with 0. */
    private static int[][] byThree(int[][] m, int a, int b) {
        int[] p = new int[m.length];
        int[][] out = new int[m.length][m.length];
        for (int x = 0; x < m.length; x++) {
            p[x] = x == 0 ? m[a][b] : x == m[a][b] ? 0 : x;
            for (int y = 0; y < m.length; y++) {
                out[x][y] = m[over(m, x, b)][under(m, a, y)];
            }
        }
        return renamed(out, p);
    }

    private static void name() {
        sentence = "of all TABLES ALIKE to it that which is least; how many renamings leave t as it is";
        for (int n = 1; n <= 8; n++) {
            checkName(cyclic(n));
        }
        for (int[][] m : new int[][][] {xor(4), xor(8), triangle(), FIVE, OTHER_FIVE, SIX, SEVEN, HALF_NORMAL}) {
            checkName(m);
        }
    }

    private static void checkName(int[][] m) {
        int[][][] least = {m};
        int same = search(m, new int[m.length], 1, least);
        becomes(four(m, SIX), same, 1, least[0], "name", 1, 0);
        becomes(four(m, blank(8)), same, 1, least[0], "name", 1, 0);
        becomes(four(m), same, 0, least[0], "name", 0, 0);
        becomes(four(least[0]), same, 0, least[0], "name", 0, 0);
    }

    /** Goes through all renamings with 0 staying; counts those that leave m and keeps the least table. */
    private static int search(int[][] m, int[] p, int next, int[][][] least) {
        if (next == m.length) {
            int[][] other = renamed(m, p);
            if (Arrays.deepToString(other).compareTo(Arrays.deepToString(least[0])) < 0) {
                least[0] = other;
            }
            return Arrays.deepEquals(other, m) ? 1 : 0;
        }
        int same = 0;
        for (int v = 1; v < m.length; v++) {
            boolean free = true;
            for (int k = 1; k < next; k++) {
                free &= p[k] != v;
            }
            if (free) {
                p[next] = v;
                same += search(m, p, next + 1, least);
            }
        }
        return same;
    }

    private static void square() {
        sentence = "SQUARES: all above 0";
        for (int n = 1; n <= 3; n++) {
            stays(four(cyclic(n)), 0, "square", 0, -1);
            stays(four(cyclic(n)), NONE, "square", 0, 0);
        }
        stays(four(cyclic(7)), 0, "square", 0, -1);
        sentence = "How many SQUARES (i = -1), the i-th by rows a, c, then columns b, d (NONE)";
        for (int[][] m : new int[][][] {xor(4), cyclic(4), FIVE, SIX, triangle(), SEVEN, HALF_NORMAL, cyclic(8), xor(8)}) {
            int count = 0;
            for (int code = 0; code < 4096; code++) {
                if (isSquare(m, code >> 9, code >> 6 & 7, code >> 3 & 7, code & 7)) {
                    stays(four(m), code, "square", 0, count);
                    count++;
                }
            }
            stays(four(m), count, "square", 0, -1);
            stays(four(m), NONE, "square", 0, count);
            stays(four(m), NONE, "square", 0, MAX);
            stays(four(m), BAD, "square", 0, -2);
            stays(four(m), BAD, "square", 0, MIN);
        }
        stays(four(xor(8)), 63, "square", 0, -1);
        stays(four(blank(8)), BAD, "square", 0, -2);
    }

    private static boolean isSquare(int[][] m, int a, int c, int b, int d) {
        return a > 0 && b > 0 && a < c && b < d && c < m.length && d < m.length && m[a][b] == m[c][d] && m[a][d] == m[c][b];
    }

    private static void turn() {
        sentence = "SQUARE i is TURNED: 1; these four change";
        for (int[][] m : new int[][][] {xor(4), cyclic(4), SIX, triangle(), HALF_NORMAL, cyclic(8), xor(8)}) {
            int count = 0;
            for (int code = 0; code < 4096; code++) {
                int a = code >> 9, c = code >> 6 & 7, b = code >> 3 & 7, d = code & 7;
                if (isSquare(m, a, c, b, d)) {
                    int[][] turned = but(but(but(but(m, a, b, m[a][d]), a, d, m[a][b]), c, b, m[c][d]), c, d, m[c][b]);
                    becomes(four(SIX, m, m), 1, 1, turned, "turn", 1, count);
                    count++;
                }
            }
            sentence = "turn: BAD: there is none; nothing changes then";
            for (int i : new int[] {count, count + 1, MAX, -1, -2, MIN}) {
                stays(four(SIX, m, m), BAD, "turn", 1, i);
            }
        }
        for (int n : new int[] {1, 2, 3, 7}) {
            stays(four(cyclic(n)), BAD, "turn", 0, 0);
            stays(four(cyclic(n)), BAD, "turn", 0, -1);
        }
        sentence = "turn: NO (BAD comes first: no SQUARE has a number below 0)";
        stays(four(but(xor(4), 3, 3, EMPTY)), NO, "turn", 0, 0);
        stays(four(but(xor(4), 3, 3, EMPTY)), BAD, "turn", 0, -1);
        sentence = "a SQUARE that is TURNED is one again";
        LatinLaws x = build(four(cyclic(4)));
        due("turn", x.turn(0, 0), 1);
        look("turn", x, four(xor(4)));
        due("turn", x.turn(0, 1), 1);
        look("turn", x, four(cyclic(4)));
    }

    /** (2 a + i) (2 b + j) = 2 (a b) + (i + j + f(a, b)) modulo 2. */
    private static int[][] doubledBy(int[][] m, int f) {
        int[][] out = new int[2 * m.length][2 * m.length];
        for (int a = 0; a < m.length; a++) {
            for (int b = 0; b < m.length; b++) {
                int sign = a == 0 || b == 0 ? 0 : f >>> 4 * a + b & 1;
                for (int i = 0; i < 2; i++) {
                    for (int j = 0; j < 2; j++) {
                        out[2 * a + i][2 * b + j] = 2 * m[a][b] + (i + j + sign) % 2;
                    }
                }
            }
        }
        return out;
    }

    private static void doubled() {
        sentence = "bit 4 a + b of f (others are not looked at); 0 where a or b is 0";
        for (int n = 1; n <= 4; n++) {
            int[][] m = n == 4 ? xor(4) : cyclic(n);
            for (int bit = 0; bit < 32; bit++) {
                int a = bit / 4, b = bit % 4;
                boolean looked = a > 0 && b > 0 && a < n && b < n;
                int[][] after = doubledBy(m, looked ? 1 << bit : 0);
                becomes(four(m), 2 * n, 1, after, "doubled", 1, 0, 1 << bit);
                becomes(four(m), 2 * n, 1, doubledBy(m, ~(looked ? 1 << bit : 0)), "doubled", 1, 0, ~(1 << bit));
            }
            for (int f : new int[] {0, -1, MIN, MAX, 0xFFFF, 0x10000}) {
                becomes(four(m, SIX), 2 * n, 1, doubledBy(m, f), "doubled", 1, 0, f);
                becomes(four(m), 2 * n, 0, doubledBy(m, f), "doubled", 0, 0, f);
            }
        }
        becomes(four(cyclic(4)), 8, 3, doubledBy(cyclic(4), 1632), "doubled", 3, 0, 1632);
        sentence = "modulo 2";
        LatinLaws x = build(four(cyclic(2)));
        due("doubled", x.doubled(0, 0, 1 << 5), 4);
        due("1 + 1 + 1", x.at(0, 3, 3), 1);
        due("1 + 0 + 1", x.at(0, 3, 2), 0);
        due("0 + 0 + 1", x.at(0, 2, 2), 1);
        due("1 + 1 + 0", x.at(0, 1, 1), 0);
        sentence = "doubled: NO: n above 4, too; nothing changes then";
        for (int n = 5; n <= 8; n++) {
            stays(four(cyclic(n), SIX), NO, "doubled", 1, 0, 0);
            stays(four(cyclic(n), SIX), NO, "doubled", 0, 0, -1);
            stays(four(blank(n), SIX), NO, "doubled", 1, 0, 0);
            stays(four(cyclic(n), SIX), BAD, "doubled", 4, 0, 0);
        }
    }

    private static int[][] productOf(int[][] p, int[][] q) {
        int m = q.length;
        return full(p.length * m, (x, y) -> m * p[x / m][y / m] + q[x % m][y % m]);
    }

    private static void product() {
        sentence = "The PRODUCT of two (n m 8 at most): m a + b, by both; NO: above 8, too";
        for (int n = 1; n <= 8; n++) {
            for (int m = 1; m <= 8; m++) {
                int[][][] room = four(cyclic(n), cyclic(m), SIX);
                for (int s = 0; s < 4; s++) {
                    if (n * m <= 8) {
                        becomes(room, n * m, s, productOf(cyclic(n), cyclic(m)), "product", s, 0, 1);
                    } else {
                        stays(room, NO, "product", s, 0, 1);
                    }
                }
            }
        }
        becomes(four(cyclic(2)), 4, 0, xor(4), "product", 0, 0, 0);
        becomes(four(cyclic(2), cyclic(4)), 8, 1, productOf(cyclic(4), cyclic(2)), "product", 1, 1, 0);
        becomes(four(FIVE), 5, 2, FIVE, "product", 2, 0, 1);
        becomes(four(SEVEN), 7, 2, SEVEN, "product", 2, 1, 0);
        becomes(four(HALF_NORMAL), 8, 2, HALF_NORMAL, "product", 2, 0, 1);
        sentence = "product: BAD; NO. Of several the first; nothing changes then";
        stays(four(cyclic(3)), BAD, "product", 4, 0, 0);
        stays(four(cyclic(3)), BAD, "product", -1, 0, 0);
        stays(four(blank(3)), BAD, "product", 1, 0, 4);
        stays(four(blank(3)), BAD, "product", 1, -1, 0);
        stays(four(blank(2), cyclic(2)), NO, "product", 2, 0, 1);
        stays(four(blank(2), cyclic(2)), NO, "product", 2, 1, 0);
        stays(four(blank(2), cyclic(2)), NO, "product", 0, 0, 0);
    }

    private static void size() {
        sentence = "n of a TABLE. BAD";
        for (int n = 1; n <= 8; n++) {
            stays(four(cyclic(n), blank(n), blank(9 - n)), n, "size", 0);
            stays(four(cyclic(n), blank(n), blank(9 - n)), n, "size", 1);
            stays(four(cyclic(n), blank(n), blank(9 - n)), 9 - n, "size", 2);
            stays(four(cyclic(n), blank(n), blank(9 - n)), 1, "size", 3);
        }
        for (int t : new int[] {-1, 4, MIN, MAX}) {
            stays(four(SIX), BAD, "size", t);
        }
    }

    public static void main(String[] args) {
        Runnable[] tests = {EdgesTest::numbersThatAreNotTold, EdgesTest::numbersThatAreTold, EdgesTest::tablesThatAreNotFull,
            EdgesTest::tablesThatNeedNotBeFull, EdgesTest::callsOfOneObject, EdgesTest::callsBehindOthers, EdgesTest::newObject,
            EdgesTest::table, EdgesTest::set, EdgesTest::at, EdgesTest::empty, EdgesTest::ways, EdgesTest::end, EdgesTest::divide,
            EdgesTest::law, EdgesTest::joining, EdgesTest::made, EdgesTest::parts, EdgesTest::normal, EdgesTest::left,
            EdgesTest::group, EdgesTest::alike, EdgesTest::name, EdgesTest::square, EdgesTest::turn, EdgesTest::doubled,
            EdgesTest::product, EdgesTest::size};
        for (Runnable test : tests) {
            test.run();
        }
        System.out.println(checks + " answers at the edges, " + wrong + " not as due");
        if (wrong != 0) {
            System.exit(1);
        }
    }
}
