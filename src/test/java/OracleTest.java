import java.util.ArrayList;
import java.util.Arrays;
import java.util.HashMap;
import java.util.List;
import java.util.Map;
import java.util.Random;

/** Tables and trees by a fixed seed, each call against the plainest way to work its answer out. */
public final class OracleTest {
    private static final Check CHECK = new Check();

    private final int rows;
    private final int columns;
    private final int[][] cells;
    private final int costA;
    private final int costB;
    private final List<Tree> trees = new ArrayList<>();
    private final Map<Long, Integer> memo = new HashMap<>();

    private static final class Tree {
        int kind;
        int content;
        Tree first;
        Tree second;
        int number;

        int count() {
            return kind == 0 ? 1 : 1 + first.count() + second.count();
        }

        void list(List<Tree> into) {
            number = into.size();
            into.add(this);
            if (kind != 0) {
                first.list(into);
                second.list(into);
            }
        }

        String say() {
            if (kind == 0) {
                return "leaf " + content + " ";
            }
            StringBuilder set = new StringBuilder();
            for (int i = 0; i < 6; i++) {
                if ((content >> i & 1) != 0) {
                    set.append(i);
                }
            }
            return (kind == 1 ? "a " : "b ") + set + " " + first.say() + second.say();
        }

        Tree next(int row, int column) {
            return (content >> (kind == 1 ? row : column) & 1) != 0 ? first : second;
        }
    }

    private OracleTest(Random random, int most) {
        rows = 1 + random.nextInt(most);
        columns = 1 + random.nextInt(most);
        cells = new int[rows][columns];
        int values = 1 + random.nextInt(random.nextInt(4) == 0 ? 10 : 3);
        int base = random.nextInt(11 - values);
        int free = random.nextInt(3) == 0 ? random.nextInt(80) : 0;
        int bias = random.nextInt(100);
        for (int[] row : cells) {
            for (int c = 0; c < columns; c++) {
                int value = random.nextInt(100) < bias ? 0 : random.nextInt(values);
                row[c] = random.nextInt(100) < free ? 10 : base + value;
            }
        }
        boolean plain = random.nextBoolean();
        costA = plain ? 1 : 1 + random.nextInt(9);
        costB = plain ? 1 : 1 + random.nextInt(9);
        int many = random.nextInt(5);
        for (int i = 0; i < many; i++) {
            trees.add(plant(random, 0, new int[] {1 + random.nextInt(31)}));
        }
    }

    /** room[0]: how many nodes there still may be, this one and those that must follow it. */
    private Tree plant(Random random, int depth, int[] room) {
        Tree tree = new Tree();
        if (depth >= 8 || room[0] < 3 || random.nextInt(5) == 0) {
            tree.content = random.nextInt(3) == 0 ? random.nextInt(10) : cells[0][0] % 10;
            return tree;
        }
        room[0] -= 2;
        tree.kind = 1 + random.nextInt(2);
        tree.content = 1 + random.nextInt((1 << (tree.kind == 1 ? rows : columns)) - 1);
        tree.first = plant(random, depth + 1, room);
        tree.second = plant(random, depth + 1, room);
        return tree;
    }

    private String text() {
        StringBuilder text = new StringBuilder();
        for (int[] row : cells) {
            for (int value : row) {
                text.append(value == 10 ? "." : "" + value);
            }
            text.append(";");
        }
        StringBuilder lines = new StringBuilder();
        for (int i = 0; i < trees.size(); i++) {
            String line = "tree n" + (char) ('a' + i) + " " + trees.get(i).say() + ";";
            if (text.length() + lines.length() + line.length() + 9 > 500) {
                trees.subList(i, trees.size()).clear();
                break;
            }
            lines.append(line);
        }
        return text + (costA == 1 && costB == 1 ? "" + lines
                : trees.size() % 2 == 0 ? "cost " + costA + " " + costB + ";" + lines
                : lines + "cost " + costA + " " + costB + ";");
    }

    private boolean has(int set, int i) {
        return (set >> i & 1) != 0;
    }

    private int[] tally(int rowSet, int columnSet) {
        int[] tally = new int[11];
        for (int r = 0; r < rows; r++) {
            for (int c = 0; c < columns; c++) {
                if (has(rowSet, r) && has(columnSet, c)) {
                    tally[cells[r][c]]++;
                }
            }
        }
        return tally;
    }

    private int filled(int[] tally) {
        return Arrays.stream(tally, 0, 10).sum();
    }

    private int kinds(int[] tally) {
        return (int) Arrays.stream(tally, 0, 10).filter(n -> n > 0).count();
    }

    private int only(int[] tally) {
        for (int v = 0; v < 10; v++) {
            if (tally[v] > 0) {
                return v;
            }
        }
        return 10;
    }

    // ---- areas

    private void areas(TalkTables x, String at, Random random) {
        int values = 0;
        int free = 0;
        for (int r = 0; r < rows; r++) {
            for (int c = 0; c < columns; c++) {
                CHECK.due(at + "cell " + r + c, x.cell(r, c), cells[r][c]);
                values |= 1 << cells[r][c] & 1023;
                free += cells[r][c] == 10 ? 1 : 0;
            }
        }
        CHECK.due(at + "about 7", x.about(7), values);
        CHECK.due(at + "about 8", x.about(8), free);
        for (int i = 0; i < 8; i++) {
            int a = 1 + random.nextInt((1 << rows) - 1);
            int b = 1 + random.nextInt((1 << columns) - 1);
            int[] tally = tally(a, b);
            CHECK.due(at + "area 0", x.area(a, b, 0), kinds(tally) <= 1 ? 1 : 0);
            CHECK.due(at + "area 1", x.area(a, b, 1), kinds(tally) <= 1 ? only(tally) : -1);
            CHECK.due(at + "area 2", x.area(a, b, 2), filled(tally));
            CHECK.due(at + "area 3", x.area(a, b, 3), kinds(tally));
        }
    }

    private void areasOf(TalkTables x, String at, int value) {
        int cellsOf = 0;
        int topRows = -1;
        int topColumns = -1;
        int leaning = 0;
        List<int[]> good = new ArrayList<>();
        int[][] around = new int[rows][columns];
        for (int a = 1; a < 1 << rows; a++) {
            for (int b = 1; b < 1 << columns; b++) {
                int[] tally = tally(a, b);
                int own = tally[value];
                int others = filled(tally) - own;
                leaning = Math.max(leaning, Math.abs(own - others));
                if (others == 0) {
                    good.add(new int[] {a, b, own});
                    if (own > cellsOf) {
                        cellsOf = own;
                        topRows = a;
                        topColumns = b;
                    }
                    for (int r = 0; r < rows; r++) {
                        for (int c = 0; c < columns; c++) {
                            if (has(a, r) && has(b, c)) {
                                around[r][c] = Math.max(around[r][c], own);
                            }
                        }
                    }
                }
            }
        }
        CHECK.due(at + "greatest 0", x.greatest(value, 0), cellsOf == 0 ? -1 : cellsOf);
        CHECK.due(at + "greatest 1", x.greatest(value, 1), topRows);
        CHECK.due(at + "greatest 2", x.greatest(value, 2), topColumns);
        CHECK.due(at + "leaning", x.leaning(value), leaning);
        for (int r = 0; r < rows; r++) {
            for (int c = 0; c < columns; c++) {
                if (cells[r][c] == value) {
                    CHECK.due(at + "around " + r + c, x.around(r, c), around[r][c]);
                } else if (cells[r][c] == 10) {
                    CHECK.due(at + "around free " + r + c, x.around(r, c), -1);
                }
            }
        }
        fullOf(x, at, value, good);
        coverOf(x, at, value, good);
    }

    private void fullOf(TalkTables x, String at, int value, List<int[]> good) {
        int k = 0;
        for (int[] one : good) {
            boolean full = one[2] > 0;
            for (int[] other : good) {
                boolean same = one[0] == other[0] && one[1] == other[1];
                if (!same && (one[0] & ~other[0]) == 0 && (one[1] & ~other[1]) == 0) {
                    full = false;
                }
            }
            if (full) {
                CHECK.due(at + "full rows " + k, x.full(value, k, 0), one[0]);
                CHECK.due(at + "full columns " + k, x.full(value, k, 1), one[1]);
                k++;
            }
        }
        CHECK.due(at + "full", x.full(value, -1, 9), k);
        CHECK.due(at + "full behind", x.full(value, k, 0), -1);
    }

    /** Step by step all sets of cells that so many areas can have; only where there are few cells. */
    private void coverOf(TalkTables x, String at, int value, List<int[]> good) {
        List<int[]> own = new ArrayList<>();
        for (int r = 0; r < rows; r++) {
            for (int c = 0; c < columns; c++) {
                if (cells[r][c] == value) {
                    own.add(new int[] {r, c});
                }
            }
        }
        if (own.size() > 13) {
            return;
        }
        List<Integer> masks = new ArrayList<>();
        for (int[] area : good) {
            int mask = 0;
            for (int i = 0; i < own.size(); i++) {
                if (has(area[0], own.get(i)[0]) && has(area[1], own.get(i)[1])) {
                    mask |= 1 << i;
                }
            }
            if (mask != 0 && !masks.contains(mask)) {
                masks.add(mask);
            }
        }
        boolean[] reached = new boolean[1 << own.size()];
        reached[0] = true;
        int steps = 0;
        while (!reached[reached.length - 1]) {
            boolean[] next = new boolean[reached.length];
            for (int set = 0; set < reached.length; set++) {
                if (reached[set]) {
                    for (int mask : masks) {
                        next[set | mask] = true;
                    }
                }
            }
            reached = next;
            steps++;
        }
        CHECK.due(at + "cover", x.cover(value), steps);
    }

    private void foolingOf(TalkTables x, String at, int value) {
        List<Integer> own = new ArrayList<>();
        for (int r = 0; r < rows; r++) {
            for (int c = 0; c < columns; c++) {
                if (cells[r][c] == value) {
                    own.add(10 * r + c);
                }
            }
        }
        List<List<Integer>> all = new ArrayList<>();
        allFooling(value, own, 0, new ArrayList<>(), all);
        int[] sizes = new int[40];
        List<Integer> top = new ArrayList<>();
        for (List<Integer> set : all) {
            sizes[set.size()]++;
            if (set.size() > top.size() || (set.size() == top.size() && before(set, top))) {
                top = set;
            }
        }
        CHECK.due(at + "fooling", x.fooling(value, -1), top.size());
        for (int k = 0; k < top.size(); k++) {
            CHECK.due(at + "fooling " + k, x.fooling(value, k), top.get(k));
        }
        CHECK.due(at + "fooling behind", x.fooling(value, top.size()), -1);
        for (int n = 0; n <= 6; n++) {
            CHECK.due(at + "fools " + n, x.fools(value, n), sizes[n]);
        }
    }

    private boolean before(List<Integer> one, List<Integer> other) {
        for (int i = 0; i < one.size(); i++) {
            if (!one.get(i).equals(other.get(i))) {
                return one.get(i) < other.get(i);
            }
        }
        return false;
    }

    private void allFooling(int value, List<Integer> own, int from, List<Integer> set,
            List<List<Integer>> all) {
        if (from == own.size()) {
            all.add(new ArrayList<>(set));
            return;
        }
        allFooling(value, own, from + 1, set, all);
        int cell = own.get(from);
        for (int other : set) {
            int one = cells[cell / 10][other % 10];
            int two = cells[other / 10][cell % 10];
            if ((one == value || one == 10) && (two == value || two == 10)) {
                return;
            }
        }
        set.add(cell);
        allFooling(value, own, from + 1, set, all);
        set.remove(set.size() - 1);
    }

    // ---- rows and columns

    private void lines(TalkTables x, String at) {
        for (int prime : new int[] {0, 2, 3, 5, 7, 11, 97}) {
            int rank = 0;
            for (int a = 1; a < 1 << rows; a++) {
                for (int b = 1; b < 1 << columns; b++) {
                    int size = Integer.bitCount(a);
                    if (size > rank && size == Integer.bitCount(b)) {
                        long minor = minor(a, b);
                        rank = (prime == 0 ? minor : minor % prime) != 0 ? size : rank;
                    }
                }
            }
            CHECK.due(at + "rank " + prime, x.rank(prime), rank);
        }
        for (int side = 0; side < 2; side++) {
            boolean byB = side == 1;
            int ways = byB ? columns : rows;
            boolean[][] clash = new boolean[ways][ways];
            for (int one = 0; one < ways; one++) {
                for (int other = 0; other < ways; other++) {
                    int want = -1;
                    for (int i = (byB ? rows : columns) - 1; i >= 0; i--) {
                        int p = byB ? cells[i][one] : cells[one][i];
                        int q = byB ? cells[i][other] : cells[other][i];
                        want = p != 10 && q != 10 && p != q ? i : want;
                    }
                    clash[one][other] = want >= 0;
                    CHECK.due(at + "conflict", x.conflict(byB, one, other), want);
                }
            }
            CHECK.due(at + "groups " + byB, x.groups(byB), group(clash, new int[ways], 0, 0));
        }
    }

    private long minor(int a, int b) {
        if (a == 0) {
            return 1;
        }
        int r = Integer.numberOfTrailingZeros(a);
        long sum = 0;
        int sign = 1;
        for (int c = 0; c < columns; c++) {
            if (has(b, c)) {
                int value = cells[r][c] % 10;
                sum += value == 0 ? 0 : sign * value * minor(a & (a - 1), b & ~(1 << c));
                sign = -sign;
            }
        }
        return sum;
    }

    private int group(boolean[][] clash, int[] groups, int at, int used) {
        if (at == groups.length) {
            return used;
        }
        int least = 99;
        for (int g = 0; g <= used; g++) {
            boolean fits = true;
            for (int i = 0; i < at; i++) {
                fits &= groups[i] != g || !clash[i][at];
            }
            if (fits) {
                groups[at] = g;
                least = Math.min(least, group(clash, groups, at + 1, Math.max(used, g + 1)));
            }
        }
        return least;
    }

    // ---- all trees

    private long key(int kind, int a, int b, int k) {
        return ((long) kind << 30) | (a << 18) | (b << 10) | k;
    }

    private int best(int how, int a, int b) {
        int[] tally = tally(a, b);
        if (kinds(tally) <= 1) {
            return how == 1 ? 1 : 0;
        }
        Integer known = memo.get(key(how, a, b, 0));
        if (known != null) {
            return known;
        }
        int least = Integer.MAX_VALUE;
        for (int s = 1; s < a; s++) {
            if ((s & ~a) == 0) {
                least = Math.min(least, join(how, costA, filled(tally), best(how, s, b),
                        best(how, a & ~s, b)));
            }
        }
        for (int s = 1; s < b; s++) {
            if ((s & ~b) == 0) {
                least = Math.min(least, join(how, costB, filled(tally), best(how, a, s),
                        best(how, a, b & ~s)));
            }
        }
        memo.put(key(how, a, b, 0), least);
        return least;
    }

    private int join(int how, int cost, int filled, int one, int other) {
        return how == 0 ? cost + Math.max(one, other)
                : how == 1 ? one + other : cost * filled + one + other;
    }

    private static final int FAR = 100000;

    /** who: 1 A, 2 B talked last, 0 nobody yet. */
    private int turns(int a, int b, int who, int k) {
        if (kinds(tally(a, b)) <= 1) {
            return 0;
        }
        Integer known = memo.get(key(10 + who, a, b, k));
        if (known != null) {
            return known;
        }
        int least = FAR;
        int leftA = who == 2 ? k - 1 : k;
        for (int s = 1; s < a && leftA >= 0; s++) {
            if ((s & ~a) == 0) {
                least = Math.min(least, costA
                        + Math.max(turns(s, b, 1, leftA), turns(a & ~s, b, 1, leftA)));
            }
        }
        int leftB = who == 1 ? k - 1 : k;
        for (int s = 1; s < b && leftB >= 0; s++) {
            if ((s & ~b) == 0) {
                least = Math.min(least, costB
                        + Math.max(turns(a, s, 2, leftB), turns(a, b & ~s, 2, leftB)));
            }
        }
        memo.put(key(10 + who, a, b, k), least);
        return least;
    }

    private int wrong(int a, int b, int k) {
        Integer known = memo.get(key(20, a, b, k));
        if (known != null) {
            return known;
        }
        int[] tally = tally(a, b);
        int least = filled(tally) - Arrays.stream(tally, 0, 10).max().getAsInt();
        for (int s = 1; s < a && k >= costA; s++) {
            if ((s & ~a) == 0) {
                least = Math.min(least, wrong(s, b, k - costA) + wrong(a & ~s, b, k - costA));
            }
        }
        for (int s = 1; s < b && k >= costB; s++) {
            if ((s & ~b) == 0) {
                least = Math.min(least, wrong(a, s, k - costB) + wrong(a, b & ~s, k - costB));
            }
        }
        memo.put(key(20, a, b, k), least);
        return least;
    }

    private Tree bestTree(int how, int a, int b) {
        Tree tree = new Tree();
        int[] tally = tally(a, b);
        if (kinds(tally) <= 1) {
            tree.content = only(tally) % 10;
            return tree;
        }
        int want = best(how, a, b);
        for (int s = 1; s < a; s++) {
            if ((s & ~a) == 0 && (s & a & -a) != 0
                    && join(how, costA, filled(tally), best(how, s, b), best(how, a & ~s, b)) == want) {
                tree.kind = 1;
                tree.content = s;
                tree.first = bestTree(how, s, b);
                tree.second = bestTree(how, a & ~s, b);
                return tree;
            }
        }
        for (int s = 1; s < b; s++) {
            if ((s & ~b) == 0 && (s & b & -b) != 0
                    && join(how, costB, filled(tally), best(how, a, s), best(how, a, b & ~s)) == want) {
                tree.kind = 2;
                tree.content = s;
                tree.first = bestTree(how, a, s);
                tree.second = bestTree(how, a, b & ~s);
                return tree;
            }
        }
        throw new IllegalStateException("no best tree");
    }

    private void allTrees(TalkTables x, String at) {
        int a = (1 << rows) - 1;
        int b = (1 << columns) - 1;
        for (int how = 0; how < 3; how++) {
            CHECK.due(at + "best " + how, x.best(how), best(how, a, b));
            List<Tree> nodes = new ArrayList<>();
            bestTree(how, a, b).list(nodes);
            CHECK.due(at + "nodes " + how, x.node(how, -1, 0), nodes.size());
            for (Tree node : nodes) {
                String here = at + "node " + how + " " + node.number;
                CHECK.due(here, x.node(how, node.number, 0), node.kind);
                CHECK.due(here, x.node(how, node.number, 1), node.content);
                CHECK.due(here, x.node(how, node.number, 2),
                        node.kind == 0 ? -1 : node.second.number);
            }
            CHECK.due(at + "nodes behind", x.node(how, nodes.size(), 0), -1);
        }
        for (int k = 0; k < 6; k++) {
            int want = turns(a, b, 0, k);
            CHECK.due(at + "byTurns " + k, x.byTurns(k), want >= FAR ? -1 : want);
        }
        for (int k = 20; k >= 0; k--) {
            CHECK.due(at + "wrong " + k, x.wrong(k), wrong(a, b, k));
        }
    }

    private void bounds(TalkTables x, String at) {
        int covers = 0;
        int fooling = 0;
        for (int value = 0; value < 10; value++) {
            covers += x.cover(value);
            fooling += x.fooling(value, -1);
        }
        int[] sums = {covers, fooling, Math.max(x.rank(0) - 1, 0) + 1};
        for (int what = 0; what < 3; what++) {
            int n = 0;
            for (int power = 1; power < sums[what]; power *= 2) {
                n++;
            }
            CHECK.due(at + "bound " + what, x.bound(what), n);
        }
    }

    // ---- trees told

    private void told(TalkTables x, String at) {
        CHECK.due(at + "trees", x.about(2), trees.size());
        for (int t = 0; t < trees.size(); t++) {
            List<Tree> nodes = new ArrayList<>();
            trees.get(t).list(nodes);
            int[] fromRows = new int[nodes.size()];
            int[] fromColumns = new int[nodes.size()];
            int worst = 0;
            int sum = 0;
            int wrong = 0;
            int most = 0;
            for (int r = 0; r < rows; r++) {
                for (int c = 0; c < columns; c++) {
                    int cost = 0;
                    int changes = 0;
                    int bits = 0;
                    int last = 0;
                    Tree node = trees.get(t);
                    while (node.kind != 0) {
                        fromRows[node.number] |= 1 << r;
                        fromColumns[node.number] |= 1 << c;
                        changes += last != 0 && last != node.kind ? 1 : 0;
                        last = node.kind;
                        cost += node.kind == 1 ? costA : costB;
                        Tree next = node.next(r, c);
                        CHECK.due(at + "bit", x.bit(t, r, c, bits), next == node.first ? 1 : 0);
                        bits++;
                        node = next;
                    }
                    fromRows[node.number] |= 1 << r;
                    fromColumns[node.number] |= 1 << c;
                    CHECK.due(at + "answer", x.answer(t, r, c), node.content);
                    CHECK.due(at + "cost", x.cost(t, r, c), cost);
                    CHECK.due(at + "leaf", x.leaf(t, r, c), node.number);
                    CHECK.due(at + "bits", x.bit(t, r, c, -1), bits);
                    CHECK.due(at + "bit behind", x.bit(t, r, c, bits), -1);
                    worst = Math.max(worst, cost);
                    most = Math.max(most, changes);
                    sum += cells[r][c] == 10 ? 0 : cost;
                    wrong += cells[r][c] == 10 || cells[r][c] == node.content ? 0 : 1;
                }
            }
            int idle = 0;
            int leaves = 0;
            for (Tree node : nodes) {
                int k = node.number;
                idle += fromRows[k] == 0 ? 1 : 0;
                leaves += node.kind == 0 ? 1 : 0;
                CHECK.due(at + "told 0", x.told(t, k, 0), node.kind);
                CHECK.due(at + "told 1", x.told(t, k, 1), node.content);
                CHECK.due(at + "told 2", x.told(t, k, 2), node.kind == 0 ? -1 : node.second.number);
                CHECK.due(at + "told 3", x.told(t, k, 3), fromRows[k]);
                CHECK.due(at + "told 4", x.told(t, k, 4), fromColumns[k]);
            }
            int[] want = {nodes.size(), leaves, worst, sum, wrong, idle, most, -1};
            for (int what = 0; what < 8; what++) {
                CHECK.due(at + "tree " + what, x.tree(t, what), want[what]);
            }
            grafts(x, at, t);
            apart(x, at, t);
        }
    }

    private void grafts(TalkTables x, String at, int t) {
        for (int d = 0; d < 10; d++) {
            int[] result = new int[2];
            graft(trees.get(t), d, (1 << rows) - 1, (1 << columns) - 1, 0, result);
            CHECK.due(at + "graft 0 " + d, x.graft(t, d, 0), result[0]);
            CHECK.due(at + "graft 1 " + d, x.graft(t, d, 1), result[1]);
        }
    }

    private void graft(Tree tree, int d, int a, int b, int spent, int[] result) {
        if (a == 0 || b == 0) {
            return;
        }
        if (d == 0) {
            result[0] = Math.max(result[0], spent + best(0, a, b));
        } else if (tree.kind == 0) {
            int[] tally = tally(a, b);
            result[0] = Math.max(result[0], spent);
            result[1] += filled(tally) - tally[tree.content];
        } else {
            boolean byA = tree.kind == 1;
            int cost = spent + (byA ? costA : costB);
            int set = tree.content;
            graft(tree.first, d - 1, byA ? a & set : a, byA ? b : b & set, cost, result);
            graft(tree.second, d - 1, byA ? a & ~set : a, byA ? b : b & ~set, cost, result);
        }
    }

    private int answer(Tree tree, int row, int column) {
        return tree.kind == 0 ? tree.content : answer(tree.next(row, column), row, column);
    }

    private void apart(TalkTables x, String at, int t) {
        for (int other = 0; other < trees.size(); other++) {
            int unlike = 0;
            for (int r = 0; r < rows; r++) {
                for (int c = 0; c < columns; c++) {
                    unlike += answer(trees.get(t), r, c) != answer(trees.get(other), r, c) ? 1 : 0;
                }
            }
            CHECK.due(at + "apart", x.apart(t, other), unlike);
        }
    }

    private void run(Random random) {
        String text = text();
        String at = text + " ";
        TalkTables x = Check.of(text);
        areas(x, at, random);
        for (int value = 0; value < 10; value++) {
            areasOf(x, at + value + " ", value);
            foolingOf(x, at + value + " ", value);
        }
        lines(x, at);
        allTrees(x, at);
        bounds(x, at);
        told(x, at);
    }

    public static void main(String[] args) {
        Random random = new Random(20261118);
        int[] many = {4, 60, 300, 200, 60, 30};
        for (int most = 1; most <= 6; most++) {
            for (int i = 0; i < many[most - 1]; i++) {
                new OracleTest(random, most).run(random);
            }
        }
        CHECK.finish("oracle");
    }
}
