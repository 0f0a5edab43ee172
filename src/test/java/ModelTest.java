import java.util.ArrayDeque;
import java.util.ArrayList;
import java.util.Arrays;
import java.util.Collections;
import java.util.HashSet;
import java.util.List;
import java.util.Random;
import java.util.Set;

/** Long runs of seeded calls, each answer set beside that of a model that follows the document word by word. */
public final class ModelTest {
    private static final int BAD = -1, NO = -2, NONE = -4;
    private static final int RUNS = 400, CALLS = 120;
    private static final int METHODS = 21;
    // Those that leave the tables FULL and as large as they are.
    private static final int[] ASKING = {6, 7, 7, 8, 8, 9, 10, 11, 11, 13, 14, 14, 14, 16, 17, 17};

    private static int wrong = 0;
    private static int answers = 0;

    /** The document, as plainly and as slowly as it can be written; -1 is an empty cell. */
    private static final class Model {
        final int[][][] tables = new int[4][][];

        Model() {
            for (int t = 0; t < 4; t++) {
                tables[t] = blank(1);
            }
        }

        static int[][] blank(int n) {
            int[][] m = new int[n][n];
            for (int a = 0; a < n; a++) {
                for (int b = 0; b < n; b++) {
                    m[a][b] = a == 0 ? b : b == 0 ? a : -1;
                }
            }
            return m;
        }

        static boolean no(int t) {
            return t < 0 || t > 3;
        }

        int n(int t) {
            return tables[t].length;
        }

        boolean out(int t, int a) {
            return a < 0 || a >= n(t);
        }

        boolean full(int t) {
            return empty(t) == 0;
        }

        int table(int t, int n) {
            if (no(t) || n < 1 || n > 8) {
                return BAD;
            }
            tables[t] = blank(n);
            return 0;
        }

        int set(int t, int a, int b, int v) {
            if (no(t) || out(t, a) || out(t, b) || a == 0 || b == 0 || v != -1 && out(t, v)) {
                return BAD;
            }
            int[][] m = tables[t];
            if (v != -1) {
                for (int[] row : m) {
                    if (row == m[a] ? Arrays.stream(row).anyMatch(e -> e == v) : row[b] == v) {
                        return NO;
                    }
                }
            }
            int old = m[a][b];
            m[a][b] = v;
            return old == -1 ? NONE : old;
        }

        int at(int t, int a, int b) {
            if (no(t) || out(t, a) || out(t, b)) {
                return BAD;
            }
            return tables[t][a][b] == -1 ? NONE : tables[t][a][b];
        }

        int empty(int t) {
            if (no(t)) {
                return BAD;
            }
            int count = 0;
            for (int[] row : tables[t]) {
                for (int v : row) {
                    count += v == -1 ? 1 : 0;
                }
            }
            return count;
        }

        /** All endings, row by row: a list of rows that fit those above, from each of them on. */
        static void endings(int[][] m, int a, int most, List<int[][]> found) {
            if (found.size() >= most) {
                return;
            }
            if (a == m.length) {
                int[][] copy = new int[m.length][];
                for (int i = 0; i < m.length; i++) {
                    copy[i] = m[i].clone();
                }
                found.add(copy);
                return;
            }
            int[] given = m[a];
            for (int[] row : rows(given)) {
                m[a] = row;
                if (latin(m)) {
                    endings(m, a + 1, most, found);
                }
            }
            m[a] = given;
        }

        static List<int[]> rows(int[] given) {
            List<int[]> out = new ArrayList<>();
            grow(given, new int[given.length], 0, out);
            return out;
        }

        static void grow(int[] given, int[] row, int b, List<int[]> out) {
            if (b == given.length) {
                out.add(row.clone());
                return;
            }
            for (int v = 0; v < given.length; v++) {
                boolean free = given[b] == -1 || given[b] == v;
                for (int k = 0; k < b; k++) {
                    free &= row[k] != v;
                }
                if (free) {
                    row[b] = v;
                    grow(given, row, b + 1, out);
                }
            }
        }

        static boolean latin(int[][] m) {
            for (int b = 0; b < m.length; b++) {
                int seen = 0;
                for (int[] row : m) {
                    if (row[b] != -1 && (seen & 1 << row[b]) != 0) {
                        return false;
                    }
                    seen |= row[b] == -1 ? 0 : 1 << row[b];
                }
            }
            return true;
        }

        int ways(int t, int most) {
            if (no(t) || most < 1 || most > 10000) {
                return BAD;
            }
            if (n(t) > 6) {
                return NO;
            }
            List<int[][]> found = new ArrayList<>();
            endings(tables[t], 0, most, found);
            return found.size();
        }

        int end(int s, int t) {
            if (no(s) || no(t)) {
                return BAD;
            }
            if (n(t) > 6) {
                return NO;
            }
            List<int[][]> found = new ArrayList<>();
            endings(tables[t], 0, 1, found);
            if (found.isEmpty()) {
                return 0;
            }
            tables[s] = found.get(0);
            return 1;
        }

        static int under(int[][] m, int a, int c) {
            for (int b = 0; b < m.length; b++) {
                if (m[a][b] == c) {
                    return b;
                }
            }
            throw new IllegalStateException();
        }

        static int over(int[][] m, int c, int b) {
            for (int a = 0; a < m.length; a++) {
                if (m[a][b] == c) {
                    return a;
                }
            }
            throw new IllegalStateException();
        }

        int divide(int t, int what, int a, int c) {
            if (no(t) || what < 0 || what > 1 || out(t, a) || out(t, c)) {
                return BAD;
            }
            if (!full(t)) {
                return NO;
            }
            return what == 0 ? under(tables[t], a, c) : over(tables[t], c, a);
        }

        int law(int t, int law, int what) {
            if (no(t) || law < 0 || law > 12 || what < 0 || what > 1) {
                return BAD;
            }
            if (!full(t)) {
                return NO;
            }
            int n = n(t), first = NONE, count = 0;
            boolean hasY = law != 8 && law != 11;
            boolean hasZ = law == 1 || law == 5 || law == 6 || law == 7 || law == 12;
            for (int number = 0; number < n * n * n; number++) {
                int x = number / n / n, y = number / n % n, z = number % n;
                if (!hasY && y > 0 || !hasZ && z > 0 || keeps(tables[t], law, x, y, z)) {
                    continue;
                }
                first = first == NONE ? number : first;
                count++;
            }
            return what == 0 ? first : count;
        }

        static boolean keeps(int[][] m, int law, int x, int y, int z) {
            return switch (law) {
                case 0 -> m[x][y] == m[y][x];
                case 1 -> m[m[x][y]][z] == m[x][m[y][z]];
                case 2 -> m[x][m[y][x]] == m[m[x][y]][x];
                case 3 -> m[x][m[x][y]] == m[m[x][x]][y];
                case 4 -> m[m[y][x]][x] == m[y][m[x][x]];
                case 5 -> m[x][m[y][m[x][z]]] == m[m[x][m[y][x]]][z];
                case 6 -> m[m[m[z][x]][y]][x] == m[z][m[m[x][y]][x]];
                case 7 -> m[m[m[x][y]][x]][z] == m[x][m[y][m[x][z]]];
                case 8 -> under(m, x, 0) == over(m, 0, x);
                case 9 -> m[under(m, x, 0)][m[x][y]] == y;
                case 10 -> m[m[y][x]][over(m, 0, x)] == y;
                case 11 -> m[x][x] == 0;
                default -> m[m[x][y]][m[x][z]] == m[m[x][x]][m[y][z]];
            };
        }

        int joining(int t, int what) {
            if (no(t) || what < 0 || what > 4) {
                return BAD;
            }
            if (!full(t)) {
                return NO;
            }
            if (what == 4) {
                return joining(t, 0) & joining(t, 1) & joining(t, 2) & joining(t, 3);
            }
            int[][] m = tables[t];
            int bits = (1 << n(t)) - 1;
            for (int a = 0; a < n(t); a++) {
                for (int x = 0; x < n(t); x++) {
                    for (int y = 0; y < n(t); y++) {
                        boolean fits = switch (what) {
                            case 0 -> m[m[a][x]][y] == m[a][m[x][y]];
                            case 1 -> m[m[x][a]][y] == m[x][m[a][y]];
                            case 2 -> m[m[x][y]][a] == m[x][m[y][a]];
                            default -> m[a][x] == m[x][a];
                        };
                        bits &= fits ? -1 : ~(1 << a);
                    }
                }
            }
            return bits;
        }

        static boolean isPart(int[][] m, int set) {
            if ((set & 1) == 0) {
                return false;
            }
            for (int a = 0; a < m.length; a++) {
                for (int b = 0; b < m.length; b++) {
                    if ((set & 1 << a) == 0 || (set & 1 << b) == 0) {
                        continue;
                    }
                    int needed = 1 << m[a][b] | 1 << under(m, a, b) | 1 << over(m, b, a);
                    if ((set & needed) != needed) {
                        return false;
                    }
                }
            }
            return true;
        }

        int made(int t, int set) {
            if (no(t) || set < 0 || set >= 1 << n(t)) {
                return BAD;
            }
            if (!full(t)) {
                return NO;
            }
            int least = (1 << n(t)) - 1;
            for (int part = 0; part < 1 << n(t); part++) {
                if ((part & set) == set && isPart(tables[t], part)) {
                    least &= part;
                }
            }
            return least;
        }

        static Set<Integer> elements(int bits) {
            Set<Integer> out = new HashSet<>();
            for (int a = 0; a < 8; a++) {
                if ((bits & 1 << a) != 0) {
                    out.add(a);
                }
            }
            return out;
        }

        static boolean isNormal(int[][] m, int part) {
            Set<Integer> h = elements(part);
            for (int x = 0; x < m.length; x++) {
                for (int y = 0; y < m.length; y++) {
                    List<Set<Integer>> sets = new ArrayList<>();
                    for (int k = 0; k < 6; k++) {
                        sets.add(new HashSet<>());
                    }
                    for (int e : h) {
                        sets.get(0).add(m[x][e]);
                        sets.get(1).add(m[e][x]);
                        sets.get(2).add(m[x][m[y][e]]);
                        sets.get(3).add(m[m[x][y]][e]);
                        sets.get(4).add(m[m[e][x]][y]);
                        sets.get(5).add(m[e][m[x][y]]);
                    }
                    for (int k = 0; k < 6; k += 2) {
                        if (!sets.get(k).equals(sets.get(k + 1))) {
                            return false;
                        }
                    }
                }
            }
            return true;
        }

        int parts(int t, int what) {
            if (no(t) || what < 0 || what > 1) {
                return BAD;
            }
            if (!full(t)) {
                return NO;
            }
            int count = 0;
            for (int part = 0; part < 1 << n(t); part++) {
                if (isPart(tables[t], part) && (what == 0 || isNormal(tables[t], part))) {
                    count++;
                }
            }
            return count;
        }

        int normal(int t, int part) {
            if (no(t) || part < 0 || part >= 1 << n(t)) {
                return BAD;
            }
            if (!full(t)) {
                return NO;
            }
            return !isPart(tables[t], part) ? BAD : isNormal(tables[t], part) ? 1 : 0;
        }

        int left(int s, int t, int part) {
            int normal = no(s) ? BAD : normal(t, part);
            if (normal != 1) {
                return normal == 0 ? NO : normal;
            }
            int[][] m = tables[t];
            List<Set<Integer>> sets = new ArrayList<>();
            for (int x = 0; x < m.length; x++) {
                Set<Integer> beside = new HashSet<>();
                for (int e : elements(part)) {
                    beside.add(m[x][e]);
                }
                if (!sets.contains(beside)) {
                    sets.add(beside);
                }
            }
            sets.sort((p, q) -> Collections.min(p) - Collections.min(q));
            int[][] made = new int[sets.size()][sets.size()];
            for (int i = 0; i < made.length; i++) {
                for (int j = 0; j < made.length; j++) {
                    Set<Integer> product = new HashSet<>();
                    for (int x : sets.get(i)) {
                        for (int y : sets.get(j)) {
                            product.add(m[x][y]);
                        }
                    }
                    made[i][j] = sets.indexOf(product);
                }
            }
            tables[s] = made;
            return made.length;
        }

        int group(int t) {
            if (no(t)) {
                return BAD;
            }
            if (!full(t) || n(t) > 7) {
                return NO;
            }
            int[][] m = tables[t];
            List<List<Integer>> turns = new ArrayList<>();
            for (int a = 0; a < m.length; a++) {
                List<Integer> fromLeft = new ArrayList<>(), fromRight = new ArrayList<>();
                for (int x = 0; x < m.length; x++) {
                    fromLeft.add(m[a][x]);
                    fromRight.add(m[x][a]);
                }
                turns.add(fromLeft);
                turns.add(fromRight);
            }
            Set<List<Integer>> seen = new HashSet<>(turns);
            ArrayDeque<List<Integer>> next = new ArrayDeque<>(seen);
            while (!next.isEmpty()) {
                List<Integer> g = next.remove();
                for (List<Integer> turn : turns) {
                    List<Integer> behind = new ArrayList<>();
                    for (int x : g) {
                        behind.add(turn.get(x));
                    }
                    if (seen.add(behind)) {
                        next.add(behind);
                    }
                }
            }
            return seen.size();
        }

        static void orders(int[] p, int k, List<int[]> out) {
            if (k == p.length) {
                out.add(p.clone());
                return;
            }
            for (int i = k; i < p.length; i++) {
                int held = p[k];
                p[k] = p[i];
                p[i] = held;
                orders(p, k + 1, out);
                p[i] = p[k];
                p[k] = held;
            }
        }

        /** All orders of n things, the first staying if so told. */
        static List<int[]> orders(int n, boolean firstStays) {
            int[] p = new int[n];
            for (int i = 0; i < n; i++) {
                p[i] = i;
            }
            List<int[]> out = new ArrayList<>();
            orders(p, firstStays ? 1 : 0, out);
            return out;
        }

        static int[][] rename(int[][] m, int[] p) {
            int[][] out = new int[m.length][m.length];
            for (int x = 0; x < m.length; x++) {
                for (int y = 0; y < m.length; y++) {
                    out[p[x]][p[y]] = p[m[x][y]];
                }
            }
            return out;
        }

        int alike(int s, int t, boolean three) {
            if (no(s) || no(t)) {
                return BAD;
            }
            if (!full(s) || !full(t) || three && (n(s) > 6 || n(t) > 6)) {
                return NO;
            }
            if (n(s) != n(t)) {
                return 0;
            }
            for (int a = 0; a < (three ? n(s) : 1); a++) {
                for (int b = 0; b < (three ? n(s) : 1); b++) {
                    int[][] m = tables[s], other = new int[m.length][m.length];
                    for (int x = 0; x < m.length; x++) {
                        for (int y = 0; y < m.length; y++) {
                            other[x][y] = m[over(m, x, b)][under(m, a, y)];
                        }
                    }
                    for (int[] p : orders(m.length, !three)) {
                        if (p[m[a][b]] == 0 && Arrays.deepEquals(rename(other, p), tables[t])) {
                            return 1;
                        }
                    }
                }
            }
            return 0;
        }

        int name(int s, int t) {
            if (no(s) || no(t)) {
                return BAD;
            }
            if (!full(t)) {
                return NO;
            }
            int same = 0;
            int[][] least = tables[t];
            for (int[] p : orders(n(t), true)) {
                int[][] other = rename(tables[t], p);
                same += Arrays.deepEquals(other, tables[t]) ? 1 : 0;
                least = Arrays.deepToString(other).compareTo(Arrays.deepToString(least)) < 0 ? other : least;
            }
            tables[s] = rename(least, orders(n(t), true).get(0));
            return same;
        }

        List<Integer> squares(int t) {
            List<Integer> out = new ArrayList<>();
            for (int code = 0; code < 4096; code++) {
                int a = code / 512, c = code / 64 % 8, b = code / 8 % 8, d = code % 8;
                if (a > 0 && b > 0 && a < c && b < d && c < n(t) && d < n(t)) {
                    int[][] m = tables[t];
                    if (m[a][b] == m[c][d] && m[a][d] == m[c][b]) {
                        out.add(code);
                    }
                }
            }
            return out;
        }

        int square(int t, int i) {
            if (no(t) || i < -1) {
                return BAD;
            }
            if (!full(t)) {
                return NO;
            }
            List<Integer> all = squares(t);
            return i == -1 ? all.size() : i < all.size() ? all.get(i) : NONE;
        }

        int turn(int t, int i) {
            if (no(t) || i < 0) {
                return BAD;
            }
            if (!full(t)) {
                return NO;
            }
            int code = square(t, i);
            if (code == NONE) {
                return BAD;
            }
            int a = code / 512, c = code / 64 % 8, b = code / 8 % 8, d = code % 8;
            int[][] m = tables[t];
            int one = m[a][b], other = m[a][d];
            m[a][b] = other;
            m[a][d] = one;
            m[c][b] = one;
            m[c][d] = other;
            return 1;
        }

        int doubled(int s, int t, int f) {
            if (no(s) || no(t)) {
                return BAD;
            }
            if (!full(t) || n(t) > 4) {
                return NO;
            }
            int[][] m = tables[t], made = new int[2 * m.length][2 * m.length];
            for (int a = 0; a < m.length; a++) {
                for (int b = 0; b < m.length; b++) {
                    int sign = a > 0 && b > 0 && (f & 1 << 4 * a + b) != 0 ? 1 : 0;
                    for (int i = 0; i < 2; i++) {
                        for (int j = 0; j < 2; j++) {
                            made[2 * a + i][2 * b + j] = 2 * m[a][b] + (i + j + sign) % 2;
                        }
                    }
                }
            }
            tables[s] = made;
            return made.length;
        }

        int product(int s, int t, int u) {
            if (no(s) || no(t) || no(u)) {
                return BAD;
            }
            if (!full(t) || !full(u) || n(t) * n(u) > 8) {
                return NO;
            }
            int m = n(u);
            int[][] made = new int[n(t) * m][n(t) * m];
            for (int x = 0; x < made.length; x++) {
                for (int y = 0; y < made.length; y++) {
                    made[x][y] = m * tables[t][x / m][y / m] + tables[u][x % m][y % m];
                }
            }
            tables[s] = made;
            return made.length;
        }

        int size(int t) {
            return no(t) ? BAD : n(t);
        }
    }

    /** One seeded run of calls on a new object and a new model. */
    private static final class Run {
        final int seed;
        final Random random;
        final LatinLaws x = new LatinLaws();
        final Model model = new Model();

        Run(int seed) {
            this.seed = seed;
            random = new Random(seed);
        }

        void due(String call, int got, int want) {
            answers++;
            if (got != want) {
                wrong++;
                if (wrong <= 20) {
                    System.out.println("run " + seed + ": " + call + " answered " + got + ", due is " + want);
                }
            }
        }

        int pick(int low, int high) {
            return low + random.nextInt(high - low + 1);
        }

        /** Mostly a number that is told, at times one just outside or far from it. */
        int near(int low, int high) {
            switch (random.nextInt(40)) {
                case 0:
                    return low - 1;
                case 1:
                    return high + 1;
                case 2:
                    return random.nextBoolean() ? Integer.MIN_VALUE : Integer.MAX_VALUE;
                default:
                    return pick(low, Math.max(low, high));
            }
        }

        int elements(int t) {
            return t >= 0 && t < 4 ? model.n(t) : 1;
        }

        void fill(int t, int n) {
            due("table", x.table(t, n), model.table(t, n));
            int[][] m = Model.blank(n);
            complete(m, 1, 1);
            for (int a = 1; a < n; a++) {
                for (int b = 1; b < n; b++) {
                    due("set", x.set(t, a, b, m[a][b]), model.set(t, a, b, m[a][b]));
                }
            }
        }

        boolean complete(int[][] m, int a, int b) {
            if (a == m.length) {
                return true;
            }
            if (b == m.length) {
                return complete(m, a + 1, 1);
            }
            List<Integer> values = new ArrayList<>();
            for (int v = 0; v < m.length; v++) {
                values.add(v);
            }
            Collections.shuffle(values, random);
            for (int v : values) {
                boolean free = true;
                for (int k = 0; k < m.length; k++) {
                    free &= m[a][k] != v && m[k][b] != v;
                }
                if (free) {
                    m[a][b] = v;
                    if (complete(m, a, b + 1)) {
                        return true;
                    }
                    m[a][b] = -1;
                }
            }
            return false;
        }

        void call(int method) {
            int s = near(0, 3), t = near(0, 3), u = near(0, 3), n = elements(t);
            int a = near(0, n - 1), b = near(0, n - 1), what = near(0, 1), set = near(0, (1 << n) - 1);
            int part = set;
            if (t >= 0 && t < 4 && set >= 0 && set < 1 << n && random.nextBoolean() && model.full(t)) {
                part = model.made(t, set & set >> 1);
            }
            String told = method + " with s " + s + ", t " + t + ", u " + u + ", a " + a + ", b " + b
                + ", what " + what + ", set " + set + ", part " + part;
            switch (method) {
                case 0: {
                    int size = near(1, 8);
                    due(told + ", n " + size, x.table(t, size), model.table(t, size));
                    break;
                }
                case 1: {
                    int v = near(-1, n - 1);
                    due(told + ", v " + v, x.set(t, a, b, v), model.set(t, a, b, v));
                    break;
                }
                case 2: due(told, x.at(t, a, b), model.at(t, a, b)); break;
                case 3: due(told, x.empty(t), model.empty(t)); break;
                case 4: {
                    int most = random.nextBoolean() ? near(1, 10000) : near(1, 20);
                    due(told + ", most " + most, x.ways(t, most), model.ways(t, most));
                    break;
                }
                case 5: due(told, x.end(s, t), model.end(s, t)); break;
                case 6: due(told, x.divide(t, what, a, b), model.divide(t, what, a, b)); break;
                case 7: {
                    int law = near(0, 12);
                    due(told + ", law " + law, x.law(t, law, what), model.law(t, law, what));
                    break;
                }
                case 8: {
                    int kind = near(0, 4);
                    due(told + ", kind " + kind, x.joining(t, kind), model.joining(t, kind));
                    break;
                }
                case 9: due(told, x.made(t, set), model.made(t, set)); break;
                case 10: due(told, x.parts(t, what), model.parts(t, what)); break;
                case 11: due(told, x.normal(t, part), model.normal(t, part)); break;
                case 12: due(told, x.left(s, t, part), model.left(s, t, part)); break;
                case 13: due(told, x.group(t), model.group(t)); break;
                case 14: {
                    boolean three = random.nextBoolean();
                    due(told + ", three " + three, x.alike(s, t, three), model.alike(s, t, three));
                    break;
                }
                case 15: due(told, x.name(s, t), model.name(s, t)); break;
                case 16: {
                    int i = near(-1, 12);
                    due(told + ", i " + i, x.square(t, i), model.square(t, i));
                    break;
                }
                case 17: {
                    int i = near(0, 8);
                    due(told + ", i " + i, x.turn(t, i), model.turn(t, i));
                    break;
                }
                case 18: {
                    int f = random.nextInt();
                    due(told + ", f " + f, x.doubled(s, t, f), model.doubled(s, t, f));
                    break;
                }
                case 19: due(told, x.product(s, t, u), model.product(s, t, u)); break;
                default: due(told, x.size(t), model.size(t)); break;
            }
        }

        void compareAll() {
            for (int t = 0; t < 4; t++) {
                due("size of " + t, x.size(t), model.size(t));
                for (int a = 0; a < model.n(t); a++) {
                    for (int b = 0; b < model.n(t); b++) {
                        due("cell " + t + ", " + a + ", " + b, x.at(t, a, b), model.at(t, a, b));
                    }
                }
            }
        }

        void run() {
            switch (seed % 4) {
                case 0:
                    runOfAll();
                    break;
                case 1:
                    runOfFilling();
                    break;
                default:
                    runOfAsking(seed % 4 == 2 ? pick(4, 6) : pick(6, 8));
                    break;
            }
            compareAll();
        }

        void runOfAll() {
            fill(pick(0, 1), pick(1, 8));
            fill(pick(2, 3), pick(1, 6));
            for (int k = 0; k < CALLS; k++) {
                call(random.nextInt(METHODS));
            }
        }

        void runOfFilling() {
            for (int t = 0; t < 4; t++) {
                int n = pick(2, 6);
                due("table", x.table(t, n), model.table(t, n));
            }
            for (int k = 0; k < 2 * CALLS; k++) {
                int t = pick(0, 3), n = elements(t);
                if (k % 10 == 9) {
                    call(pick(0, 7));
                } else if (n > 1) {
                    int a = pick(1, n - 1), b = pick(1, n - 1), v = pick(-1, n - 1);
                    due("set " + t + " " + a + " " + b + " " + v, x.set(t, a, b, v), model.set(t, a, b, v));
                }
            }
            for (int t = 0; t < 4; t++) {
                due("ways of " + t, x.ways(t, 10000), model.ways(t, 10000));
                due("end of " + t, x.end(t, t), model.end(t, t));
            }
        }

        void runOfAsking(int n) {
            fill(0, n);
            fill(1, n);
            if (n % 2 == 0) {
                fill(3, n / 2);
                int f = random.nextInt();
                due("doubled", x.doubled(2, 3, f), model.doubled(2, 3, f));
            }
            int from = pick(0, 2);
            due("name", x.name(3, from), model.name(3, from));
            for (int k = 0; k < CALLS / 2; k++) {
                call(ASKING[random.nextInt(ASKING.length)]);
            }
        }
    }

    public static void main(String[] args) {
        for (int seed = 1; seed <= RUNS; seed++) {
            new Run(seed).run();
        }
        System.out.println(answers + " answers beside the model, " + wrong + " not as due");
        if (wrong != 0) {
            System.exit(1);
        }
    }
}
