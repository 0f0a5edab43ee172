import java.util.function.IntBinaryOperator;

/** Each promise of the document: ordinary inputs, the edges that it names, and wrong inputs. */
public final class PromisesTest {
    private static final int BAD = LatinLaws.BAD, NO = LatinLaws.NO, NONE = LatinLaws.NONE;
    private static final int MIN = Integer.MIN_VALUE, MAX = Integer.MAX_VALUE;
    // Rows 1 to 4, columns 1 to 4, of two tables of five that are ALIKE BY THREE alone: all squares of the
    // first are 0, and of the second 2 \ 0, 3 \ 0, 4 \ 0 are 3, 4, 2, but 0 / 2, 0 / 3, 0 / 4 are 4, 2, 3.
    private static final int[][] FIVE = {{0, 3, 4, 2}, {4, 0, 1, 3}, {2, 4, 0, 1}, {3, 1, 2, 0}};
    private static final int[][] OTHER_FIVE = {{0, 3, 4, 2}, {3, 4, 0, 1}, {4, 1, 2, 0}, {2, 0, 1, 3}};

    private static int wrong = 0;
    private static int checks = 0;
    private static int promise = 0;

    private static void due(String call, int got, int want) {
        checks++;
        if (got != want) {
            wrong++;
            System.out.println("promise " + promise + ": " + call + " answered " + got + ", due is " + want);
        }
    }

    /** Fills table t by a rule. */
    private static void fill(LatinLaws x, int t, int n, IntBinaryOperator rule) {
        due("table(" + t + ", " + n + ")", x.table(t, n), 0);
        for (int a = 1; a < n; a++) {
            for (int b = 1; b < n; b++) {
                due("set(" + t + ", " + a + ", " + b + ", ..)", x.set(t, a, b, rule.applyAsInt(a, b)), NONE);
            }
        }
    }

    private static void fill(LatinLaws x, int t, int[][] rows) {
        fill(x, t, rows.length + 1, (a, b) -> rows[a - 1][b - 1]);
    }

    private static void same(LatinLaws x, int t, int n, IntBinaryOperator rule) {
        due("size(" + t + ")", x.size(t), n);
        for (int a = 0; a < n; a++) {
            for (int b = 0; b < n; b++) {
                due("at(" + t + ", " + a + ", " + b + ")", x.at(t, a, b), rule.applyAsInt(a, b));
            }
        }
    }

    private static IntBinaryOperator cyclic(int n) {
        return (a, b) -> (a + b) % n;
    }

    private static int xor(int a, int b) {
        return a ^ b;
    }

    /** The six turns of a triangle: below 3 rotations, from 3 on mirrorings. */
    private static int triangle(int a, int b) {
        int turn = a < 3 ? a + b : a - b + 3;
        return turn % 3 + (a < 3 == b < 3 ? 0 : 3);
    }

    /** Signs of 1, i, j, k: minus for i i, j j, k k, j i, k j, i k. */
    private static int quaternionSigns() {
        return 1 << 5 | 1 << 10 | 1 << 15 | 1 << 9 | 1 << 14 | 1 << 7;
    }

    private static void newObject() {
        LatinLaws x = new LatinLaws();
        for (int t = 0; t < 4; t++) {
            same(x, t, 1, (a, b) -> 0);
            due("empty", x.empty(t), 0);
            due("at(t, 0, 1)", x.at(t, 0, 1), BAD);
        }
    }

    private static void table() {
        LatinLaws x = new LatinLaws();
        for (int n = 1; n <= 8; n++) {
            due("table(3, n)", x.table(3, n), 0);
            same(x, 3, n, (a, b) -> a == 0 ? b : b == 0 ? a : NONE);
        }
        due("set", x.set(3, 1, 1, 2), NONE);
        for (int n : new int[] {0, 9, -1, MIN, MAX}) {
            due("table(3, " + n + ")", x.table(3, n), BAD);
        }
        for (int t : new int[] {-1, 4, MIN, MAX}) {
            due("table(" + t + ", 2)", x.table(t, 2), BAD);
        }
        due("at, as it was", x.at(3, 1, 1), 2);
        due("size, as it was", x.size(3), 8);
        due("table again", x.table(3, 8), 0);
        due("at, emptied", x.at(3, 1, 1), NONE);
        due("size of another", x.size(2), 1);
    }

    private static void set() {
        LatinLaws x = new LatinLaws();
        due("set in a table of one", x.set(0, 1, 1, 0), BAD);
        x.table(0, 4);
        due("set(0, 1, 1, -1)", x.set(0, 1, 1, -1), NONE);
        due("set(0, 1, 1, 2)", x.set(0, 1, 1, 2), NONE);
        due("set(0, 1, 1, 3)", x.set(0, 1, 1, 3), 2);
        due("set(0, 1, 1, 0)", x.set(0, 1, 1, 0), 3);
        due("the same again is in that row", x.set(0, 1, 1, 0), NO);
        due("in column 0", x.set(0, 1, 2, 1), NO);
        due("in row 0", x.set(0, 1, 2, 2), NO);
        due("in the row", x.set(0, 1, 3, 0), NO);
        due("in the column", x.set(0, 3, 1, 0), NO);
        due("elsewhere", x.set(0, 2, 3, 0), NONE);
        due("at, as it was", x.at(0, 1, 2), NONE);
        due("set(0, 1, 1, -1)", x.set(0, 1, 1, -1), 0);
        due("at, emptied", x.at(0, 1, 1), NONE);
        due("free again", x.set(0, 3, 1, 0), NONE);
        int[][] bad = {{-1, 1, 1, 2}, {4, 1, 1, 2}, {0, 0, 1, 1}, {0, 1, 0, 1}, {0, 4, 1, 2}, {0, 1, 4, 2}, {0, -1, 1, 2},
            {0, 1, -1, 2}, {0, 1, 1, 4}, {0, 1, 1, -2}, {0, 1, 1, NONE}, {0, MIN, 1, 2}, {0, 1, MAX, 2}, {0, 1, 1, MAX}, {0, 0, 1, -1}};
        for (int[] c : bad) {
            due("set(" + c[0] + ", " + c[1] + ", " + c[2] + ", " + c[3] + ")", x.set(c[0], c[1], c[2], c[3]), BAD);
        }
        due("empty", x.empty(0), 7);
    }

    private static void at() {
        LatinLaws x = new LatinLaws();
        x.table(1, 3);
        x.set(1, 2, 1, 0);
        due("at(1, 2, 1)", x.at(1, 2, 1), 0);
        due("at(1, 1, 2)", x.at(1, 1, 2), NONE);
        due("at(1, 0, 2)", x.at(1, 0, 2), 2);
        due("at(1, 2, 0)", x.at(1, 2, 0), 2);
        int[][] bad = {{-1, 0, 0}, {4, 0, 0}, {1, 3, 0}, {1, 0, 3}, {1, -1, 0}, {1, 0, -1}, {1, MAX, 0}, {1, 0, MIN}, {0, 1, 0}};
        for (int[] c : bad) {
            due("at(" + c[0] + ", " + c[1] + ", " + c[2] + ")", x.at(c[0], c[1], c[2]), BAD);
        }
    }

    private static void empty() {
        LatinLaws x = new LatinLaws();
        for (int n = 1; n <= 8; n++) {
            x.table(2, n);
            due("empty(2)", x.empty(2), (n - 1) * (n - 1));
        }
        x.set(2, 7, 7, 0);
        due("empty(2)", x.empty(2), 48);
        due("empty(-1)", x.empty(-1), BAD);
        due("empty(4)", x.empty(4), BAD);
    }

    private static void ways() {
        LatinLaws x = new LatinLaws();
        int[] known = {1, 1, 1, 4, 56, 9408};
        for (int n = 1; n <= 6; n++) {
            x.table(0, n);
            due("ways of " + n, x.ways(0, 10000), known[n - 1]);
            due("still empty", x.empty(0), (n - 1) * (n - 1));
        }
        due("ways(0, 1)", x.ways(0, 1), 1);
        due("ways(0, 9407)", x.ways(0, 9407), 9407);
        due("ways(0, 9409)", x.ways(0, 9409), 9408);
        due("ways(0, 0)", x.ways(0, 0), BAD);
        due("ways(0, 10001)", x.ways(0, 10001), BAD);
        due("ways(4, 1)", x.ways(4, 1), BAD);
        due("ways(-1, 1)", x.ways(-1, 1), BAD);
        x.table(1, 3);
        x.set(1, 1, 1, 0);
        due("stuck", x.ways(1, 7), 0);
        fill(x, 2, 5, cyclic(5));
        due("FULL", x.ways(2, 7), 1);
        fill(x, 3, 7, cyclic(7));
        due("n of 7", x.ways(3, 1), NO);
        due("BAD before NO", x.ways(3, 0), BAD);
        x.table(3, 8);
        due("n of 8", x.ways(3, 1), NO);
    }

    private static void end() {
        LatinLaws x = new LatinLaws();
        x.table(0, 4);
        due("end(1, 0)", x.end(1, 0), 1);
        same(x, 1, 4, PromisesTest::xor);
        due("t stays", x.empty(0), 9);
        x.set(0, 1, 1, 2);
        due("end(0, 0)", x.end(0, 0), 1);
        same(x, 0, 4, cyclic(4));
        due("end of a FULL one", x.end(2, 0), 1);
        same(x, 2, 4, cyclic(4));
        x.table(3, 3);
        x.set(3, 1, 1, 0);
        due("stuck", x.end(2, 3), 0);
        same(x, 2, 4, cyclic(4));
        x.table(3, 7);
        due("n of 7", x.end(2, 3), NO);
        due("BAD before NO", x.end(4, 3), BAD);
        due("end(0, 4)", x.end(0, 4), BAD);
        due("end(-1, 0)", x.end(-1, 0), BAD);
        due("n above 6 in s alone", x.end(3, 2), 1);
        same(x, 3, 4, cyclic(4));
    }

    private static void divide() {
        LatinLaws x = new LatinLaws();
        fill(x, 0, 6, PromisesTest::triangle);
        for (int a = 0; a < 6; a++) {
            for (int b = 0; b < 6; b++) {
                due("a \\ a b", x.divide(0, 0, a, triangle(a, b)), b);
                due("a b / b", x.divide(0, 1, b, triangle(a, b)), a);
            }
        }
        int[][] bad = {{4, 0, 0, 0}, {-1, 0, 0, 0}, {0, 2, 0, 0}, {0, -1, 0, 0}, {0, 0, 6, 0}, {0, 0, -1, 0}, {0, 1, 0, 6}, {0, 1, 0, -1}};
        for (int[] c : bad) {
            due("divide(" + c[0] + ", " + c[1] + ", " + c[2] + ", " + c[3] + ")", x.divide(c[0], c[1], c[2], c[3]), BAD);
        }
        x.set(0, 5, 5, -1);
        due("not FULL", x.divide(0, 0, 0, 1), NO);
        due("BAD before NO", x.divide(0, 0, 0, 6), BAD);
    }

    private static void law() {
        LatinLaws x = new LatinLaws();
        fill(x, 0, 6, PromisesTest::triangle);
        due("first that does not change", x.law(0, 0, 0), 36 + 6 * 3);
        due("how many do not", x.law(0, 0, 1), 18);
        for (int law = 1; law <= 10; law++) {
            due("law " + law + " of a group", x.law(0, law, 0), NONE);
            due("law " + law + " of a group", x.law(0, law, 1), 0);
        }
        due("first square that is not 0", x.law(0, 11, 0), 36);
        due("squares that are not 0", x.law(0, 11, 1), 2);
        due("law 12", x.law(0, 12, 0), 36 + 6 * 3);
        due("law 12", x.law(0, 12, 1), 18 * 6);
        fill(x, 1, FIVE);
        int[] first = {35, 32, NONE, 35, 35, 27, 27, 27, NONE, 35, 35, NONE, 27};
        int[] count = {12, 36, 0, 12, 12, 60, 60, 60, 0, 12, 12, 0, 36};
        for (int law = 0; law <= 12; law++) {
            due("law(1, " + law + ", 0)", x.law(1, law, 0), first[law]);
            due("law(1, " + law + ", 1)", x.law(1, law, 1), count[law]);
        }
        fill(x, 2, OTHER_FIVE);
        due("law(2, 8, 0)", x.law(2, 8, 0), 50);
        due("law(2, 8, 1)", x.law(2, 8, 1), 3);
        due("law(0, 13, 0)", x.law(0, 13, 0), BAD);
        due("law(0, -1, 0)", x.law(0, -1, 0), BAD);
        due("law(0, 0, 2)", x.law(0, 0, 2), BAD);
        due("law(0, 0, -1)", x.law(0, 0, -1), BAD);
        due("law(4, 0, 0)", x.law(4, 0, 0), BAD);
        x.set(0, 1, 1, -1);
        due("not FULL", x.law(0, 0, 0), NO);
        due("BAD before NO", x.law(0, 13, 0), BAD);
    }

    private static void joining() {
        LatinLaws x = new LatinLaws();
        fill(x, 0, 6, PromisesTest::triangle);
        int[] group = {63, 63, 63, 1, 1};
        fill(x, 1, FIVE);
        fill(x, 2, 6, cyclic(6));
        for (int what = 0; what < 5; what++) {
            due("of a group", x.joining(0, what), group[what]);
            due("of five", x.joining(1, what), 1);
            due("of a cyclic one", x.joining(2, what), 63);
        }
        due("joining(0, 5)", x.joining(0, 5), BAD);
        due("joining(0, -1)", x.joining(0, -1), BAD);
        due("joining(4, 0)", x.joining(4, 0), BAD);
        x.set(0, 1, 1, -1);
        due("not FULL", x.joining(0, 0), NO);
        due("BAD before NO", x.joining(0, 5), BAD);
    }

    private static void made() {
        LatinLaws x = new LatinLaws();
        fill(x, 0, 6, PromisesTest::triangle);
        due("by none", x.made(0, 0), 1);
        due("by 0", x.made(0, 1), 1);
        due("by a rotation", x.made(0, 2), 7);
        due("by a mirroring", x.made(0, 16), 17);
        due("by two mirrorings", x.made(0, 48), 63);
        due("by all", x.made(0, 63), 63);
        due("made(0, 64)", x.made(0, 64), BAD);
        due("made(0, -1)", x.made(0, -1), BAD);
        due("made(4, 0)", x.made(4, 0), BAD);
        fill(x, 1, 8, cyclic(8));
        due("by 6", x.made(1, 64), 85);
        due("by 7", x.made(1, 128), 255);
        due("made(1, 256)", x.made(1, 256), BAD);
        x.set(0, 1, 1, -1);
        due("not FULL", x.made(0, 0), NO);
        due("BAD before NO", x.made(0, 64), BAD);
    }

    private static void parts() {
        LatinLaws x = new LatinLaws();
        fill(x, 0, 6, PromisesTest::triangle);
        due("parts(0, 0)", x.parts(0, 0), 6);
        due("parts(0, 1)", x.parts(0, 1), 3);
        fill(x, 1, 8, PromisesTest::xor);
        due("parts(1, 0)", x.parts(1, 0), 16);
        due("parts(1, 1)", x.parts(1, 1), 16);
        fill(x, 2, FIVE);
        due("parts(2, 0)", x.parts(2, 0), 6);
        due("parts(2, 1)", x.parts(2, 1), 2);
        due("parts(0, 2)", x.parts(0, 2), BAD);
        due("parts(0, -1)", x.parts(0, -1), BAD);
        due("parts(-1, 0)", x.parts(-1, 0), BAD);
        x.set(0, 1, 1, -1);
        due("not FULL", x.parts(0, 0), NO);
        due("BAD before NO", x.parts(0, 2), BAD);
    }

    private static void normal() {
        LatinLaws x = new LatinLaws();
        fill(x, 0, 6, PromisesTest::triangle);
        due("0 alone", x.normal(0, 1), 1);
        due("rotations", x.normal(0, 7), 1);
        due("all", x.normal(0, 63), 1);
        due("a mirroring", x.normal(0, 9), 0);
        due("without 0", x.normal(0, 6), BAD);
        due("none", x.normal(0, 0), BAD);
        due("no PART", x.normal(0, 3), BAD);
        due("too many", x.normal(0, 64), BAD);
        due("normal(0, -1)", x.normal(0, -1), BAD);
        due("normal(4, 1)", x.normal(4, 1), BAD);
        x.set(0, 1, 1, -1);
        due("not FULL", x.normal(0, 1), NO);
        due("BAD before NO", x.normal(0, 64), BAD);
    }

    private static void left() {
        LatinLaws x = new LatinLaws();
        fill(x, 0, 6, PromisesTest::triangle);
        due("by rotations", x.left(1, 0, 7), 2);
        same(x, 1, 2, cyclic(2));
        due("by 0", x.left(1, 0, 1), 6);
        same(x, 1, 6, PromisesTest::triangle);
        due("not NORMAL", x.left(1, 0, 9), NO);
        due("no PART", x.left(1, 0, 3), BAD);
        due("too many", x.left(1, 0, 64), BAD);
        due("left(4, 0, 1)", x.left(4, 0, 1), BAD);
        due("left(1, -1, 1)", x.left(1, -1, 1), BAD);
        due("BAD before NO", x.left(4, 0, 9), BAD);
        same(x, 1, 6, PromisesTest::triangle);
        fill(x, 2, 8, cyclic(8));
        due("to itself", x.left(2, 2, 17), 4);
        same(x, 2, 4, cyclic(4));
        due("by all", x.left(2, 2, 15), 1);
        same(x, 2, 1, cyclic(1));
        x.set(0, 1, 1, -1);
        due("not FULL", x.left(1, 0, 1), NO);
        same(x, 1, 6, PromisesTest::triangle);
    }

    private static void group() {
        LatinLaws x = new LatinLaws();
        for (int n = 1; n <= 7; n++) {
            fill(x, 0, n, cyclic(n));
            due("cyclic", x.group(0), n);
        }
        fill(x, 1, 6, PromisesTest::triangle);
        due("triangle", x.group(1), 36);
        fill(x, 2, FIVE);
        due("five", x.group(2), 120);
        due("again", x.group(1), 36);
        fill(x, 3, 8, PromisesTest::xor);
        due("n of 8", x.group(3), NO);
        due("group(4)", x.group(4), BAD);
        due("group(-1)", x.group(-1), BAD);
        x.set(1, 1, 1, -1);
        due("not FULL", x.group(1), NO);
    }

    private static void alike() {
        LatinLaws x = new LatinLaws();
        fill(x, 0, 4, cyclic(4));
        fill(x, 1, 4, PromisesTest::xor);
        fill(x, 2, new int[][] {{0, 3, 2}, {3, 1, 0}, {2, 0, 1}});
        due("cyclic and xor", x.alike(0, 1, false), 0);
        due("cyclic and xor", x.alike(0, 1, true), 0);
        due("cyclic, renamed", x.alike(0, 2, false), 1);
        due("cyclic, renamed", x.alike(2, 0, true), 1);
        due("itself", x.alike(1, 1, false), 1);
        due("another n", x.alike(0, 3, false), 0);
        due("another n", x.alike(0, 3, true), 0);
        fill(x, 2, FIVE);
        fill(x, 3, OTHER_FIVE);
        due("by three alone", x.alike(2, 3, true), 1);
        due("by three alone", x.alike(3, 2, true), 1);
        due("by three alone", x.alike(2, 3, false), 0);
        fill(x, 3, 5, cyclic(5));
        due("not by three", x.alike(2, 3, true), 0);
        fill(x, 2, 6, cyclic(6));
        due("n of 6", x.alike(2, 2, true), 1);
        fill(x, 3, 7, cyclic(7));
        due("n of 7", x.alike(3, 3, true), NO);
        due("n of 7 and 6", x.alike(2, 3, true), NO);
        due("n of 7", x.alike(3, 3, false), 1);
        due("alike(4, 0, false)", x.alike(4, 0, false), BAD);
        due("alike(0, -1, true)", x.alike(0, -1, true), BAD);
        x.set(2, 1, 1, -1);
        due("not FULL", x.alike(2, 3, false), NO);
        due("not FULL", x.alike(3, 2, false), NO);
        due("BAD before NO", x.alike(2, 4, false), BAD);
    }

    private static void name() {
        LatinLaws x = new LatinLaws();
        fill(x, 0, 8, PromisesTest::xor);
        due("xor", x.name(1, 0), 168);
        same(x, 1, 8, PromisesTest::xor);
        fill(x, 0, 6, PromisesTest::triangle);
        due("triangle", x.name(1, 0), 6);
        due("it is alike", x.alike(0, 1, false), 1);
        int[] renamed = {0, 5, 3, 1, 4, 2};
        int[] back = {0, 3, 5, 2, 4, 1};
        fill(x, 2, 6, (a, b) -> renamed[triangle(back[a], back[b])]);
        due("renamed, to itself", x.name(2, 2), 6);
        same(x, 2, 6, (a, b) -> x.at(1, a, b));
        fill(x, 3, new int[][] {{2, 3, 0}, {3, 0, 1}, {0, 1, 2}});
        due("cyclic", x.name(3, 3), 2);
        same(x, 3, 4, (a, b) -> new int[][] {{0, 1, 2, 3}, {1, 0, 3, 2}, {2, 3, 1, 0}, {3, 2, 0, 1}}[a][b]);
        x.table(3, 1);
        due("one", x.name(2, 3), 1);
        due("name(4, 0)", x.name(4, 0), BAD);
        due("name(0, -1)", x.name(0, -1), BAD);
        x.set(0, 1, 1, -1);
        due("not FULL", x.name(1, 0), NO);
        due("BAD before NO", x.name(4, 0), BAD);
        due("s stays", x.size(1), 6);
    }

    private static void square() {
        LatinLaws x = new LatinLaws();
        fill(x, 0, 4, PromisesTest::xor);
        due("square(0, -1)", x.square(0, -1), 3);
        due("square(0, 0)", x.square(0, 0), 512 + 128 + 8 + 2);
        due("square(0, 1)", x.square(0, 1), 512 + 192 + 8 + 3);
        due("square(0, 2)", x.square(0, 2), 1024 + 192 + 16 + 3);
        due("square(0, 3)", x.square(0, 3), NONE);
        due("square(0, MAX)", x.square(0, MAX), NONE);
        due("square(0, -2)", x.square(0, -2), BAD);
        due("square(4, 0)", x.square(4, 0), BAD);
        fill(x, 1, 8, PromisesTest::xor);
        due("square(1, -1)", x.square(1, -1), 63);
        due("first rows, then columns", x.square(1, 1), 512 + 128 + 32 + 7);
        due("the last", x.square(1, 62), 512 * 6 + 64 * 7 + 8 * 6 + 7);
        x.set(0, 1, 1, -1);
        due("not FULL", x.square(0, -1), NO);
        due("not FULL", x.square(0, 0), NO);
        due("BAD before NO", x.square(0, -2), BAD);
    }

    private static void turn() {
        LatinLaws x = new LatinLaws();
        fill(x, 0, 4, PromisesTest::xor);
        due("turn(0, 3)", x.turn(0, 3), BAD);
        due("turn(0, -1)", x.turn(0, -1), BAD);
        due("turn(0, MAX)", x.turn(0, MAX), BAD);
        due("turn(4, 0)", x.turn(4, 0), BAD);
        same(x, 0, 4, PromisesTest::xor);
        due("turn(0, 1)", x.turn(0, 1), 1);
        int[][] turned = {{0, 1, 2, 3}, {1, 2, 3, 0}, {2, 3, 0, 1}, {3, 0, 1, 2}};
        same(x, 0, 4, (a, b) -> turned[a][b]);
        due("squares then", x.square(0, -1), 1);
        due("back", x.turn(0, 0), 1);
        same(x, 0, 4, PromisesTest::xor);
        x.set(0, 1, 1, -1);
        due("not FULL", x.turn(0, 0), NO);
        due("BAD before NO", x.turn(0, -1), BAD);
    }

    private static void doubled() {
        LatinLaws x = new LatinLaws();
        fill(x, 0, 4, PromisesTest::xor);
        due("without signs", x.doubled(1, 0, 0), 8);
        same(x, 1, 8, PromisesTest::xor);
        due("quaternions", x.doubled(1, 0, quaternionSigns()), 8);
        due("i j = k", x.at(1, 2, 4), 6);
        due("j i = -k", x.at(1, 4, 2), 7);
        due("-i i = 1", x.at(1, 3, 2), 0);
        due("they join", x.law(1, 1, 1), 0);
        due("parts", x.parts(1, 0), 6);
        due("all normal", x.parts(1, 1), 6);
        due("renamings", x.name(2, 1), 24);
        due("other bits", x.doubled(2, 0, 0xFFFF111F | quaternionSigns()), 8);
        same(x, 2, 8, (a, b) -> x.at(1, a, b));
        due("n of 8", x.doubled(2, 1, 0), NO);
        due("doubled(4, 0, 0)", x.doubled(4, 0, 0), BAD);
        due("doubled(0, 4, 0)", x.doubled(0, 4, 0), BAD);
        due("BAD before NO", x.doubled(-1, 1, 0), BAD);
        due("one, to itself", x.doubled(3, 3, MAX), 2);
        due("two, to itself", x.doubled(3, 3, 1 << 5), 4);
        same(x, 3, 4, (a, b) -> new int[][] {{0, 1, 2, 3}, {1, 0, 3, 2}, {2, 3, 1, 0}, {3, 2, 0, 1}}[a][b]);
        x.set(0, 1, 1, -1);
        due("not FULL", x.doubled(2, 0, 0), NO);
        fill(x, 0, 5, cyclic(5));
        due("n of 5", x.doubled(2, 0, 0), NO);
        due("s stays", x.size(2), 8);
    }

    private static void product() {
        LatinLaws x = new LatinLaws();
        fill(x, 0, 2, cyclic(2));
        fill(x, 1, 3, cyclic(3));
        due("two and three", x.product(2, 0, 1), 6);
        same(x, 2, 6, (a, b) -> (a / 3 + b / 3) % 2 * 3 + (a % 3 + b % 3) % 3);
        due("three and two", x.product(2, 1, 0), 6);
        same(x, 2, 6, (a, b) -> (a / 2 + b / 2) % 3 * 2 + (a % 2 + b % 2) % 2);
        due("above 8", x.product(2, 1, 1), NO);
        due("to itself", x.product(0, 0, 0), 4);
        same(x, 0, 4, PromisesTest::xor);
        fill(x, 1, 2, cyclic(2));
        due("of 8", x.product(1, 1, 0), 8);
        same(x, 1, 8, PromisesTest::xor);
        due("of 8 and 1", x.product(2, 1, 3), 8);
        due("of 8 and 4", x.product(2, 1, 0), NO);
        due("product(4, 0, 0)", x.product(4, 1, 0), BAD);
        due("product(0, -1, 0)", x.product(0, -1, 0), BAD);
        due("product(0, 0, 4)", x.product(0, 0, 4), BAD);
        x.table(0, 2);
        due("not FULL", x.product(2, 0, 3), NO);
        due("not FULL", x.product(2, 3, 0), NO);
        due("s stays", x.size(2), 8);
    }

    private static void size() {
        LatinLaws x = new LatinLaws();
        for (int n = 8; n >= 1; n--) {
            x.table(1, n);
            due("size(1)", x.size(1), n);
        }
        due("size(-1)", x.size(-1), BAD);
        due("size(4)", x.size(4), BAD);
        due("size(MIN)", x.size(MIN), BAD);
    }

    public static void main(String[] args) {
        Runnable[] promises = {PromisesTest::newObject, PromisesTest::table, PromisesTest::set, PromisesTest::at,
            PromisesTest::empty, PromisesTest::ways, PromisesTest::end, PromisesTest::divide, PromisesTest::law,
            PromisesTest::joining, PromisesTest::made, PromisesTest::parts, PromisesTest::normal, PromisesTest::left,
            PromisesTest::group, PromisesTest::alike, PromisesTest::name, PromisesTest::square, PromisesTest::turn,
            PromisesTest::doubled, PromisesTest::product, PromisesTest::size};
        for (Runnable p : promises) {
            promise++;
            p.run();
        }
        System.out.println(promise + " promises, " + checks + " answers, " + wrong + " not as due");
        if (wrong != 0) {
            System.exit(1);
        }
    }
}
