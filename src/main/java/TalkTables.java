/**
 * Tables told apart by talk: A sees the row, B the column of a table, and they say bits to one
 * another until both know what stands there. The words in capitals of the document are plain
 * words here: a set of rows or columns is a number with a bit for each of them.
 */
public final class TalkTables {
    /** There is none. */
    public static final int NONE = -1;

    private static final int SIDE = 6;
    private static final int FREE = 10;
    private static final int VALUES = 10;
    private static final int TREES = 4;
    private static final int ACTS = 12;
    private static final int TAPE = 500;
    private static final int NODES = 31;
    private static final int DEPTH = 9;
    private static final int TURNS = 6;
    private static final int BUDGETS = 21;
    private static final int LAST_PRIME = 97;

    private static final int LEAF = 0;
    private static final int BY_A = 1;
    private static final int BY_B = 2;

    /** More than any cost, count or sum can be, and twice it is still an int. */
    private static final int FAR = 1000000;

    /** An act that turned the table; the others are numbers of 0 and above. */
    private static final int TURNED = -1;

    private final Reader reader = new Reader();
    private final Table table = new Table();
    private final Told[] trees = new Told[TREES];
    private final int[] acts = new int[ACTS];
    private final Patches patches = new Patches(table);
    private final Fools fools = new Fools(table);
    private final Lines lines = new Lines(table);
    private final Areas areas = new Areas(table);
    private final Best[] bests = new Best[3];
    private final Turns turns = new Turns(areas);
    private final Spoilt spoilt = new Spoilt(areas);
    private int treeCount;
    private int kept;

    /** One row, one column, its cell is free; no trees. */
    public TalkTables() {
        for (int i = 0; i < TREES; i++) {
            trees[i] = new Told();
        }
        for (int how = 0; how < 3; how++) {
            bests[how] = new Best(areas, how);
        }
    }

    // ---- the text

    public int feed(int a, int b, int c, int d, int e) {
        if (reader.length + 20 > TAPE) {
            return NONE;
        }
        reader.append(a);
        reader.append(b);
        reader.append(c);
        reader.append(d);
        reader.append(e);
        return reader.length;
    }

    public int end(int n) {
        if (n < 0 || n > reader.length) {
            return NONE;
        }
        reader.length = n;
        return n;
    }

    public int text() {
        boolean good = reader.readAll();
        reader.length = 0;
        if (!good) {
            return NONE;
        }
        table.copyFrom(reader.table);
        treeCount = reader.treeCount;
        for (int i = 0; i < treeCount; i++) {
            trees[i].take(reader.trees[i], table);
        }
        kept = 0;
        forget();
        return treeCount;
    }

    public int fault(int what) {
        switch (what) {
            case 0: return reader.fault;
            case 1: return reader.place;
            default: return NONE;
        }
    }

    public int about(int what) {
        switch (what) {
            case 0: return table.rows;
            case 1: return table.columns;
            case 2: return treeCount;
            case 3: return kept;
            case 4: return reader.length;
            case 5: return table.costA;
            case 6: return table.costB;
            case 7: return table.valuesIn(table.allRows(), table.allColumns());
            case 8: return table.rows * table.columns
                    - table.filledIn(table.allRows(), table.allColumns());
            default: return NONE;
        }
    }

    public int cell(int row, int column) {
        return table.has(row, column) ? table.at(row, column) : NONE;
    }

    // ---- areas

    public int area(int rows, int columns, int what) {
        if (rows <= 0 || rows > table.allRows() || columns <= 0 || columns > table.allColumns()) {
            return NONE;
        }
        int values = table.valuesIn(rows, columns);
        switch (what) {
            case 0: return isAlike(values) ? 1 : 0;
            case 1: return isAlike(values) ? onlyValue(values) : NONE;
            case 2: return table.filledIn(rows, columns);
            case 3: return Integer.bitCount(values);
            default: return NONE;
        }
    }

    public int greatest(int value, int what) {
        if (!isValue(value)) {
            return NONE;
        }
        patches.take(value);
        patches.findGreatest();
        if (patches.topCells == 0) {
            return NONE;
        }
        switch (what) {
            case 0: return patches.topCells;
            case 1: return patches.topRows;
            case 2: return patches.topColumns;
            default: return NONE;
        }
    }

    public int cover(int value) {
        return isValue(value) ? coverOf(value) : NONE;
    }

    public int full(int value, int k, int what) {
        if (!isValue(value)) {
            return NONE;
        }
        patches.take(value);
        patches.findFull();
        if (k == NONE) {
            return patches.fulls;
        }
        if (k < 0 || k >= patches.fulls) {
            return NONE;
        }
        switch (what) {
            case 0: return patches.fullRows[k];
            case 1: return patches.fullColumns[k];
            default: return NONE;
        }
    }

    public int conflict(boolean byB, int one, int other) {
        return table.firstClash(byB, one, other);
    }

    public int around(int row, int column) {
        if (!table.has(row, column) || table.at(row, column) == FREE) {
            return NONE;
        }
        patches.take(table.at(row, column));
        return patches.mostWith(row, column);
    }

    public int fooling(int value, int k) {
        if (!isValue(value)) {
            return NONE;
        }
        fools.take(value);
        fools.findGreatest();
        if (k == NONE) {
            return fools.topSize;
        }
        return k < 0 || k >= fools.topSize ? NONE : fools.nameOf(fools.top[k]);
    }

    public int fools(int value, int n) {
        if (!isValue(value) || n < 0 || n > SIDE) {
            return NONE;
        }
        fools.take(value);
        return fools.howMany(n);
    }

    public int rank(int prime) {
        return prime == 0 || isPrime(prime) ? lines.rankBy(prime) : NONE;
    }

    public int groups(boolean byB) {
        return lines.fewestGroups(byB);
    }

    public int leaning(int value) {
        if (!isValue(value)) {
            return NONE;
        }
        patches.take(value);
        return patches.mostLeaning();
    }

    // ---- all trees

    public int best(int what) {
        return isHow(what) ? bests[what].worthOf(table.allRows(), table.allColumns()) : NONE;
    }

    public int byTurns(int k) {
        return k < 0 || k >= TURNS ? NONE : turns.leastWith(k);
    }

    public int node(int how, int k, int what) {
        if (!isHow(how)) {
            return NONE;
        }
        Nodes nodes = bests[how].tellTree();
        return k == NONE ? nodes.count : nodes.tellNode(k, what);
    }

    public int wrong(int k) {
        return k < 0 || k >= BUDGETS ? NONE : spoilt.fewestWith(k);
    }

    public int bound(int what) {
        switch (what) {
            case 0: return bitsFor(allCovers());
            case 1: return bitsFor(allFooling());
            case 2: return bitsFor(Math.max(lines.rankBy(0) - 1, 0) + 1);
            default: return NONE;
        }
    }

    // ---- trees told

    public int answer(int tree, int row, int column) {
        if (!isTree(tree) || !table.has(row, column)) {
            return NONE;
        }
        return trees[tree].answerAt(row, column);
    }

    public int cost(int tree, int row, int column) {
        if (!isTree(tree) || !table.has(row, column)) {
            return NONE;
        }
        return trees[tree].spent[trees[tree].leafAt(row, column)];
    }

    public int leaf(int tree, int row, int column) {
        return isTree(tree) && table.has(row, column) ? trees[tree].leafAt(row, column) : NONE;
    }

    public int bit(int tree, int row, int column, int i) {
        if (!isTree(tree) || !table.has(row, column)) {
            return NONE;
        }
        int said = trees[tree].depth[trees[tree].leafAt(row, column)];
        if (i == NONE) {
            return said;
        }
        return i < 0 || i >= said ? NONE : trees[tree].bitAt(row, column, i);
    }

    public int tree(int tree, int what) {
        if (!isTree(tree)) {
            return NONE;
        }
        switch (what) {
            case 0: return trees[tree].nodes.count;
            case 1: return trees[tree].leafCount();
            case 2: return trees[tree].worstCost();
            case 3: return trees[tree].sumOfCosts(table);
            case 4: return trees[tree].wrongAbove(table, DEPTH);
            case 5: return trees[tree].idleCount();
            case 6: return trees[tree].mostTurns();
            default: return NONE;
        }
    }

    public int told(int tree, int k, int what) {
        if (!isTree(tree) || k < 0 || k >= trees[tree].nodes.count) {
            return NONE;
        }
        switch (what) {
            case 3: return trees[tree].isIdle(k) ? 0 : trees[tree].rows[k];
            case 4: return trees[tree].isIdle(k) ? 0 : trees[tree].columns[k];
            default: return trees[tree].nodes.tellNode(k, what);
        }
    }

    public int graft(int tree, int d, int what) {
        if (!isTree(tree) || d < 0 || d > DEPTH) {
            return NONE;
        }
        switch (what) {
            case 0: return trees[tree].graftedCost(d, bests[0]);
            case 1: return trees[tree].wrongAbove(table, d);
            default: return NONE;
        }
    }

    public int apart(int one, int other) {
        if (!isTree(one) || !isTree(other)) {
            return NONE;
        }
        int unlike = 0;
        for (int row = 0; row < table.rows; row++) {
            for (int column = 0; column < table.columns; column++) {
                if (trees[one].answerAt(row, column) != trees[other].answerAt(row, column)) {
                    unlike++;
                }
            }
        }
        return unlike;
    }

    // ---- acts

    public int put(int row, int column, int value) {
        if (!table.has(row, column) || value < 0 || value > FREE) {
            return NONE;
        }
        int had = table.at(row, column);
        if (had == value) {
            return NONE;
        }
        keep((row * SIDE + column) * (FREE + 1) + had);
        table.cells[row * SIDE + column] = value;
        forget();
        return had;
    }

    public int turn() {
        keep(TURNED);
        turnAll();
        return table.rows;
    }

    public boolean undo() {
        if (kept <= 0) {
            return false;
        }
        kept--;
        int act = acts[kept];
        if (act == TURNED) {
            turnAll();
        } else {
            table.cells[act / (FREE + 1)] = act % (FREE + 1);
            forget();
        }
        return true;
    }

    // ---- what the calls share

    private void keep(int act) {
        if (kept >= ACTS) {
            for (int i = 1; i < ACTS; i++) {
                acts[i - 1] = acts[i];
            }
            kept = ACTS - 1;
        }
        acts[kept] = act;
        kept++;
    }

    private void turnAll() {
        table.swapSides();
        for (int i = 0; i < treeCount; i++) {
            trees[i].swapSides(table);
        }
        forget();
    }

    /** What was worked out for the table as it stood no longer holds. */
    private void forget() {
        areas.fresh = false;
        turns.ready = 0;
        spoilt.ready = 0;
        for (int how = 0; how < 3; how++) {
            bests[how].solved = false;
            bests[how].grown = false;
        }
    }

    private int coverOf(int value) {
        patches.take(value);
        patches.findFull();
        fools.take(value);
        fools.findGreatest();
        return patches.fewestAreas(fools.topSize);
    }

    private int allCovers() {
        int sum = 0;
        for (int value = 0; value < VALUES; value++) {
            sum += coverOf(value);
        }
        return sum;
    }

    private int allFooling() {
        int sum = 0;
        for (int value = 0; value < VALUES; value++) {
            fools.take(value);
            fools.findGreatest();
            sum += fools.topSize;
        }
        return sum;
    }

    private boolean isTree(int tree) {
        return tree >= 0 && tree < treeCount;
    }

    private static boolean isValue(int value) {
        return value >= 0 && value < VALUES;
    }

    private static boolean isHow(int how) {
        return how >= 0 && how < 3;
    }

    private static boolean isPrime(int n) {
        if (n < 2 || n > LAST_PRIME) {
            return false;
        }
        for (int d = 2; d * d <= n; d++) {
            if (n % d == 0) {
                return false;
            }
        }
        return true;
    }

    private static int bitsFor(int many) {
        int n = 0;
        while (n < 30 && (1 << n) < many) {
            n++;
        }
        return n;
    }

    private static boolean isAlike(int values) {
        return (values & (values - 1)) == 0;
    }

    /** The value of an area that is alike, as the cells tell it. */
    private static int onlyValue(int values) {
        return values == 0 ? FREE : placeOf(values);
    }

    /** The number of a set's one member. */
    private static int placeOf(int lone) {
        return Integer.bitCount(lone - 1);
    }

    /** The cells and what a bit costs. Cells beyond the table are free, so that a turn is a swap. */
    private static final class Table {
        final int[] cells = new int[SIDE * SIDE];
        int rows;
        int columns;
        int costA;
        int costB;

        Table() {
            wipe();
            rows = 1;
            columns = 1;
        }

        void wipe() {
            for (int i = 0; i < cells.length; i++) {
                cells[i] = FREE;
            }
            rows = 0;
            columns = 0;
            costA = 1;
            costB = 1;
        }

        void copyFrom(Table from) {
            for (int i = 0; i < cells.length; i++) {
                cells[i] = from.cells[i];
            }
            rows = from.rows;
            columns = from.columns;
            costA = from.costA;
            costB = from.costB;
        }

        boolean has(int row, int column) {
            return row >= 0 && row < rows && column >= 0 && column < columns;
        }

        int at(int row, int column) {
            return cells[row * SIDE + column];
        }

        int allRows() {
            return (1 << rows) - 1;
        }

        int allColumns() {
            return (1 << columns) - 1;
        }

        /** The values in an area, a bit each. */
        int valuesIn(int rowSet, int columnSet) {
            int values = 0;
            for (int row = 0; row < rows; row++) {
                for (int column = 0; column < columns; column++) {
                    if (isIn(row, rowSet) && isIn(column, columnSet)) {
                        values |= 1 << at(row, column);
                    }
                }
            }
            return values & ((1 << FREE) - 1);
        }

        int filledIn(int rowSet, int columnSet) {
            return unlikeIn(rowSet, columnSet, FREE);
        }

        /** How many cells of an area are neither free nor of the value. */
        int unlikeIn(int rowSet, int columnSet, int value) {
            int many = 0;
            for (int row = 0; row < rows; row++) {
                if (isIn(row, rowSet)) {
                    many += Integer.bitCount(columnsUnlike(row, value) & columnSet);
                }
            }
            return many;
        }

        int columnsOf(int row, int value) {
            int set = 0;
            for (int column = 0; column < columns; column++) {
                if (at(row, column) == value) {
                    set |= 1 << column;
                }
            }
            return set;
        }

        int columnsUnlike(int row, int value) {
            return allColumns() & ~columnsOf(row, value) & ~columnsOf(row, FREE);
        }

        int firstClash(boolean byB, int one, int other) {
            int ways = byB ? columns : rows;
            if (one < 0 || one >= ways || other < 0 || other >= ways) {
                return NONE;
            }
            int across = byB ? rows : columns;
            for (int i = 0; i < across; i++) {
                int first = byB ? at(i, one) : at(one, i);
                int second = byB ? at(i, other) : at(other, i);
                if (first != second && first != FREE && second != FREE) {
                    return i;
                }
            }
            return NONE;
        }

        void swapSides() {
            for (int row = 0; row < SIDE; row++) {
                for (int column = 0; column < row; column++) {
                    int held = at(row, column);
                    cells[row * SIDE + column] = at(column, row);
                    cells[column * SIDE + row] = held;
                }
            }
            int side = rows;
            rows = columns;
            columns = side;
            int cost = costA;
            costA = costB;
            costB = cost;
        }

        static boolean isIn(int member, int set) {
            return ((set >> member) & 1) != 0;
        }
    }

    /** The nodes of a tree as they stand; the first part of one follows it at once. */
    private static final class Nodes {
        final int[] kind;
        final int[] content;
        final int[] second;
        int count;

        Nodes(int most) {
            kind = new int[most];
            content = new int[most];
            second = new int[most];
        }

        /** The new node's number; NONE if there is no room. */
        int add(int newKind, int newContent) {
            if (count >= kind.length) {
                return NONE;
            }
            kind[count] = newKind;
            content[count] = newContent;
            second[count] = NONE;
            count++;
            return count - 1;
        }

        void copyFrom(Nodes from) {
            count = Math.min(from.count, kind.length);
            for (int k = 0; k < count; k++) {
                kind[k] = from.kind[k];
                content[k] = from.content[k];
                second[k] = from.second[k];
            }
        }

        int tellNode(int k, int what) {
            if (k < 0 || k >= count) {
                return NONE;
            }
            switch (what) {
                case 0: return kind[k];
                case 1: return content[k];
                case 2: return second[k];
                default: return NONE;
            }
        }

        /** Whether the one who talks at a node says that it is in the set. */
        boolean saysYes(int k, int row, int column) {
            return Table.isIn(kind[k] == BY_A ? row : column, content[k]);
        }
    }

    /** A tree of the text, and of each node what comes to it and what was said before it. */
    private static final class Told {
        final Nodes nodes = new Nodes(NODES);
        final int[] rows = new int[NODES];
        final int[] columns = new int[NODES];
        final int[] depth = new int[NODES];
        final int[] spent = new int[NODES];
        final int[] changes = new int[NODES];
        final int[] before = new int[NODES];

        void take(Nodes from, Table table) {
            nodes.copyFrom(from);
            follow(table);
        }

        void swapSides(Table table) {
            for (int k = 0; k < nodes.count; k++) {
                if (nodes.kind[k] != LEAF) {
                    nodes.kind[k] = nodes.kind[k] == BY_A ? BY_B : BY_A;
                }
            }
            follow(table);
        }

        private void follow(Table table) {
            rows[0] = table.allRows();
            columns[0] = table.allColumns();
            depth[0] = 0;
            spent[0] = 0;
            changes[0] = 0;
            before[0] = LEAF;
            for (int k = 0; k < nodes.count; k++) {
                if (nodes.kind[k] != LEAF) {
                    handDown(k, k + 1, nodes.content[k], table);
                    handDown(k, nodes.second[k], ~nodes.content[k], table);
                }
            }
        }

        private void handDown(int k, int child, int set, Table table) {
            if (child <= k || child >= nodes.count) {
                return;
            }
            boolean byA = nodes.kind[k] == BY_A;
            rows[child] = byA ? rows[k] & set : rows[k];
            columns[child] = byA ? columns[k] : columns[k] & set;
            depth[child] = depth[k] + 1;
            spent[child] = spent[k] + (byA ? table.costA : table.costB);
            boolean changed = before[k] != LEAF && before[k] != nodes.kind[k];
            changes[child] = changes[k] + (changed ? 1 : 0);
            before[child] = nodes.kind[k];
        }

        boolean isIdle(int k) {
            return rows[k] == 0 || columns[k] == 0;
        }

        private boolean isUsedLeaf(int k) {
            return nodes.kind[k] == LEAF && !isIdle(k);
        }

        private int childAt(int k, int row, int column) {
            int child = nodes.saysYes(k, row, column) ? k + 1 : nodes.second[k];
            return child > k && child < nodes.count ? child : k;
        }

        int leafAt(int row, int column) {
            int k = 0;
            for (int steps = 0; steps < DEPTH && nodes.kind[k] != LEAF; steps++) {
                k = childAt(k, row, column);
            }
            return k;
        }

        int answerAt(int row, int column) {
            return nodes.content[leafAt(row, column)];
        }

        int bitAt(int row, int column, int i) {
            int k = 0;
            for (int steps = 0; steps < i && steps < DEPTH; steps++) {
                k = childAt(k, row, column);
            }
            return nodes.saysYes(k, row, column) ? 1 : 0;
        }

        int leafCount() {
            int many = 0;
            for (int k = 0; k < nodes.count; k++) {
                many += nodes.kind[k] == LEAF ? 1 : 0;
            }
            return many;
        }

        int idleCount() {
            int many = 0;
            for (int k = 0; k < nodes.count; k++) {
                many += isIdle(k) ? 1 : 0;
            }
            return many;
        }

        int worstCost() {
            int worst = 0;
            for (int k = 0; k < nodes.count; k++) {
                worst = isUsedLeaf(k) ? Math.max(worst, spent[k]) : worst;
            }
            return worst;
        }

        int mostTurns() {
            int most = 0;
            for (int k = 0; k < nodes.count; k++) {
                most = isUsedLeaf(k) ? Math.max(most, changes[k]) : most;
            }
            return most;
        }

        int sumOfCosts(Table table) {
            int sum = 0;
            for (int k = 0; k < nodes.count; k++) {
                if (isUsedLeaf(k)) {
                    sum += spent[k] * table.filledIn(rows[k], columns[k]);
                }
            }
            return sum;
        }

        /** Cells told wrong by the leaves that are less far below the first node than d. */
        int wrongAbove(Table table, int d) {
            int sum = 0;
            for (int k = 0; k < nodes.count; k++) {
                if (isUsedLeaf(k) && depth[k] < d) {
                    sum += table.unlikeIn(rows[k], columns[k], nodes.content[k]);
                }
            }
            return sum;
        }

        int graftedCost(int d, Best best) {
            int worst = 0;
            for (int k = 0; k < nodes.count; k++) {
                if (!isIdle(k) && depth[k] == d) {
                    worst = Math.max(worst, spent[k] + best.worthOf(rows[k], columns[k]));
                } else if (isUsedLeaf(k) && depth[k] < d) {
                    worst = Math.max(worst, spent[k]);
                }
            }
            return worst;
        }
    }

    /** The tape, and how a text is read from it. What is read stands apart until all of it is good. */
    private static final class Reader {
        static final int END = 0;
        static final int WORD = 1;
        static final int RUN = 2;
        static final int STOP = 3;
        static final int BAD = 4;

        static final int LONGEST = 6;

        /** Words as numbers, their letters 1 .. 26 being digits. */
        static final int BASE = 27;
        static final int WORD_A = 1;
        static final int WORD_B = 2;
        static final int WORD_COST = ((3 * BASE + 15) * BASE + 19) * BASE + 20;
        static final int WORD_TREE = ((20 * BASE + 18) * BASE + 5) * BASE + 5;
        static final int WORD_LEAF = ((12 * BASE + 5) * BASE + 1) * BASE + 6;

        final byte[] tape = new byte[TAPE];
        final Table table = new Table();
        final Nodes[] trees = new Nodes[TREES];
        final int[] names = new int[TREES];
        int length;
        int treeCount;
        int fault;
        int place = NONE;
        private boolean costTold;
        private int next;
        private int token;
        private int first;
        private int size;
        private int word;

        Reader() {
            for (int i = 0; i < TREES; i++) {
                trees[i] = new Nodes(NODES);
            }
        }

        void append(int four) {
            for (int shift = 24; shift >= 0 && length < TAPE; shift -= 8) {
                tape[length] = (byte) (four >> shift);
                length++;
            }
        }

        boolean readAll() {
            fault = 0;
            place = NONE;
            next = 0;
            treeCount = 0;
            costTold = false;
            table.wipe();
            advance();
            if (!readRows()) {
                return false;
            }
            for (int lines = 0; lines < TAPE && token != END; lines++) {
                boolean isTree = token == WORD && word == WORD_TREE;
                if (!(isTree ? readTree() : readCosts())) {
                    return false;
                }
            }
            return true;
        }

        private boolean refuse(int why) {
            fault = token == BAD ? 1 : why;
            place = first;
            return false;
        }

        private boolean readRows() {
            if (token != RUN) {
                return refuse(2);
            }
            for (int row = 0; row <= SIDE && token == RUN; row++) {
                if (!readRow(row)) {
                    return false;
                }
            }
            return true;
        }

        private boolean readRow(int row) {
            if (row > 0 && size != table.columns) {
                return refuse(4);
            }
            if (row >= SIDE) {
                return refuse(5);
            }
            for (int column = 0; column < size && column < SIDE; column++) {
                int sign = signAt(column);
                table.cells[row * SIDE + column] = sign == '.' ? FREE : sign - '0';
            }
            table.columns = size;
            table.rows = row + 1;
            advance();
            return readStop();
        }

        private boolean readCosts() {
            if (token != WORD || word != WORD_COST || costTold) {
                return refuse(2);
            }
            costTold = true;
            advance();
            if (!isNumberFrom(1)) {
                return false;
            }
            table.costA = signAt(0) - '0';
            advance();
            if (!isNumberFrom(1)) {
                return false;
            }
            table.costB = signAt(0) - '0';
            advance();
            return readStop();
        }

        private boolean readTree() {
            if (treeCount >= TREES) {
                return refuse(5);
            }
            advance();
            if (token != WORD || isKept(word)) {
                return refuse(2);
            }
            for (int i = 0; i < treeCount; i++) {
                if (names[i] == word) {
                    return refuse(3);
                }
            }
            names[treeCount] = word;
            advance();
            trees[treeCount].count = 0;
            if (!readNode(trees[treeCount], 0) || !readStop()) {
                return false;
            }
            treeCount++;
            return true;
        }

        private boolean readNode(Nodes tree, int depth) {
            if (token != WORD || (word != WORD_LEAF && word != WORD_A && word != WORD_B)) {
                return refuse(2);
            }
            if (depth >= DEPTH || tree.count >= NODES) {
                return refuse(5);
            }
            if (word == WORD_LEAF) {
                return readLeaf(tree);
            }
            boolean byA = word == WORD_A;
            advance();
            int set = readSet(byA ? table.rows : table.columns);
            if (set == 0) {
                return false;
            }
            int k = tree.add(byA ? BY_A : BY_B, set);
            advance();
            if (k < 0 || !readNode(tree, depth + 1)) {
                return false;
            }
            tree.second[k] = tree.count;
            return readNode(tree, depth + 1);
        }

        private boolean readLeaf(Nodes tree) {
            advance();
            if (!isNumberFrom(0)) {
                return false;
            }
            tree.add(LEAF, signAt(0) - '0');
            advance();
            return true;
        }

        /** The set at hand as bits; 0 if it was refused. */
        private int readSet(int many) {
            if (token != RUN) {
                refuse(2);
                return 0;
            }
            int set = 0;
            for (int i = 0; i < size; i++) {
                int member = signAt(i) - '0';
                if (member < 0 || member >= many || (set >> member) != 0) {
                    refuse(4);
                    return 0;
                }
                set |= 1 << member;
            }
            return set;
        }

        private boolean isNumberFrom(int least) {
            if (token != RUN) {
                return refuse(2);
            }
            return (size == 1 && signAt(0) - '0' >= least) || refuse(4);
        }

        private boolean readStop() {
            if (token != STOP) {
                return refuse(2);
            }
            advance();
            return true;
        }

        private static boolean isKept(int code) {
            return code == WORD_A || code == WORD_B || code == WORD_COST || code == WORD_TREE
                    || code == WORD_LEAF;
        }

        /** A byte of the token at hand; 0 behind the tape. */
        private int signAt(int i) {
            int at = first + i;
            return at >= 0 && at < length && at < TAPE ? tape[at] : 0;
        }

        /** The next token; of a run the word is no matter. */
        private void advance() {
            first = next;
            while (first < length && (signAt(0) == ' ' || signAt(0) == '\n')) {
                first++;
            }
            token = first < length ? kindOf(signAt(0)) : END;
            size = token == STOP || token == BAD ? 1 : 0;
            word = 0;
            boolean grows = token == WORD || token == RUN;
            while (grows && first + size < length && kindOf(signAt(size)) == token) {
                word = word * BASE + signAt(size) - 'a' + 1;
                size++;
            }
            next = first + size;
            if (size > LONGEST) {
                token = BAD;
            }
        }

        private static int kindOf(int sign) {
            if (sign >= 'a' && sign <= 'z') {
                return WORD;
            }
            if ((sign >= '0' && sign <= '9') || sign == '.') {
                return RUN;
            }
            return sign == ';' ? STOP : BAD;
        }
    }

    /** Areas in which no cell has another value than the one that was taken. */
    private static final class Patches {
        private static final int MOST = 1 << SIDE;

        final Table table;
        final int[] own = new int[SIDE];
        final int[] other = new int[SIDE];
        final int[] fullRows = new int[MOST];
        final int[] fullColumns = new int[MOST];
        final long[] fullCells = new long[MOST];
        int fulls;
        int topCells;
        int topRows;
        int topColumns;

        Patches(Table table) {
            this.table = table;
        }

        void take(int value) {
            for (int row = 0; row < table.rows; row++) {
                own[row] = table.columnsOf(row, value);
                other[row] = table.columnsUnlike(row, value);
            }
        }

        /** The columns that have no other value in the rows. */
        private int openColumns(int rowSet) {
            int shut = 0;
            for (int row = 0; row < table.rows; row++) {
                shut |= Table.isIn(row, rowSet) ? other[row] : 0;
            }
            return table.allColumns() & ~shut;
        }

        private int openRows(int columnSet) {
            int open = 0;
            for (int row = 0; row < table.rows; row++) {
                open |= (other[row] & columnSet) == 0 ? 1 << row : 0;
            }
            return open;
        }

        private int ownColumns(int rowSet) {
            int columns = 0;
            for (int row = 0; row < table.rows; row++) {
                columns |= Table.isIn(row, rowSet) ? own[row] : 0;
            }
            return columns;
        }

        /** The cells of the value in an area, a bit each. */
        private long ownCells(int rowSet, int columnSet) {
            long set = 0;
            for (int row = 0; row < table.rows; row++) {
                if (Table.isIn(row, rowSet)) {
                    set |= (long) (own[row] & columnSet) << (row * SIDE);
                }
            }
            return set;
        }

        /** Rising sets of rows, and no column that adds nothing: of like ones the least comes first. */
        void findGreatest() {
            topCells = 0;
            for (int rowSet = 1; rowSet <= table.allRows(); rowSet++) {
                int columnSet = openColumns(rowSet) & ownColumns(rowSet);
                int many = Long.bitCount(ownCells(rowSet, columnSet));
                if (many > topCells) {
                    topCells = many;
                    topRows = rowSet;
                    topColumns = columnSet;
                }
            }
        }

        int mostWith(int row, int column) {
            int most = 0;
            for (int rowSet = 1; rowSet <= table.allRows(); rowSet++) {
                int open = openColumns(rowSet);
                if (Table.isIn(row, rowSet) && Table.isIn(column, open)) {
                    most = Math.max(most, Long.bitCount(ownCells(rowSet, open)));
                }
            }
            return most;
        }

        void findFull() {
            fulls = 0;
            for (int rowSet = 1; rowSet <= table.allRows() && fulls < MOST; rowSet++) {
                int open = openColumns(rowSet);
                long cells = ownCells(rowSet, open);
                if (cells != 0 && openRows(open) == rowSet) {
                    fullRows[fulls] = rowSet;
                    fullColumns[fulls] = open;
                    fullCells[fulls] = cells;
                    fulls++;
                }
            }
        }

        /** Full areas do for a cover, and so does an area for each row or for each column. */
        int fewestAreas(int atLeast) {
            long all = ownCells(table.allRows(), table.allColumns());
            int withOwn = 0;
            for (int row = 0; row < table.rows; row++) {
                withOwn += own[row] != 0 ? 1 : 0;
            }
            int enough = Math.min(withOwn, Integer.bitCount(ownColumns(table.allRows())));
            for (int many = Math.max(atLeast, 0); many < enough; many++) {
                if (isCovered(all, many)) {
                    return many;
                }
            }
            return enough;
        }

        private boolean isCovered(long open, int left) {
            if (open == 0) {
                return true;
            }
            if (left <= 0 || left > SIDE || mostNew(open) * left < Long.bitCount(open)) {
                return false;
            }
            long cell = rarest(open);
            for (int i = 0; i < fulls; i++) {
                if ((fullCells[i] & cell) != 0 && isCovered(open & ~fullCells[i], left - 1)) {
                    return true;
                }
            }
            return false;
        }

        private int mostNew(long open) {
            int most = 0;
            for (int i = 0; i < fulls; i++) {
                most = Math.max(most, Long.bitCount(fullCells[i] & open));
            }
            return most;
        }

        /** The open cell that the fewest full areas have: it leaves the fewest ways to go on. */
        private long rarest(long open) {
            long rare = open & -open;
            int fewest = FAR;
            for (int i = 0; i < SIDE * SIDE; i++) {
                long cell = (1L << i) & open;
                if (cell != 0) {
                    int having = 0;
                    for (int j = 0; j < fulls; j++) {
                        having += (fullCells[j] & cell) != 0 ? 1 : 0;
                    }
                    if (having < fewest) {
                        fewest = having;
                        rare = cell;
                    }
                }
            }
            return rare;
        }

        /** Of some rows, the columns that lean one way make the most of it together. */
        int mostLeaning() {
            int most = 0;
            for (int rowSet = 1; rowSet <= table.allRows(); rowSet++) {
                int more = 0;
                int fewer = 0;
                for (int column = 0; column < table.columns; column++) {
                    int lean = leanOf(rowSet, column);
                    more += Math.max(lean, 0);
                    fewer += Math.max(-lean, 0);
                }
                most = Math.max(most, Math.max(more, fewer));
            }
            return most;
        }

        private int leanOf(int rowSet, int column) {
            int lean = 0;
            for (int row = 0; row < table.rows; row++) {
                if (Table.isIn(row, rowSet)) {
                    lean += ((own[row] >> column) & 1) - ((other[row] >> column) & 1);
                }
            }
            return lean;
        }
    }

    /** Sets of cells of the value that was taken, of which any two fool. */
    private static final class Fools {
        private static final int MOST = SIDE * SIDE;

        final Table table;
        final int[] cells = new int[MOST];
        /** Of each cell those behind it that fool with it, a bit each. */
        final long[] partners = new long[MOST];
        final int[] path = new int[SIDE];
        final int[] top = new int[SIDE];
        int count;
        int topSize;

        Fools(Table table) {
            this.table = table;
        }

        void take(int value) {
            count = 0;
            for (int row = 0; row < table.rows; row++) {
                for (int column = 0; column < table.columns; column++) {
                    if (table.at(row, column) == value) {
                        cells[count] = row * SIDE + column;
                        count++;
                    }
                }
            }
            for (int i = 0; i < count; i++) {
                partners[i] = 0;
                for (int j = i + 1; j < count; j++) {
                    partners[i] |= isFooling(cells[i], cells[j], value) ? 1L << j : 0;
                }
            }
        }

        private boolean isFooling(int one, int two, int value) {
            int here = table.at(one / SIDE, two % SIDE);
            int there = table.at(two / SIDE, one % SIDE);
            return (here != value && here != FREE) || (there != value && there != FREE);
        }

        int nameOf(int i) {
            return i >= 0 && i < count ? cells[i] / SIDE * 10 + cells[i] % SIDE : NONE;
        }

        private long everyCell() {
            return (1L << count) - 1;
        }

        /** The lesser cell is tried first, so that the first of like size is the first as a row. */
        void findGreatest() {
            topSize = 0;
            lengthen(everyCell(), 0);
        }

        private void lengthen(long from, int size) {
            if (size > topSize) {
                topSize = size;
                for (int i = 0; i < size; i++) {
                    top[i] = path[i];
                }
            }
            if (size >= SIDE) {
                return;
            }
            for (int i = 0; i < count && size + Long.bitCount(from >> i) > topSize; i++) {
                if (((from >> i) & 1) != 0) {
                    path[size] = i;
                    lengthen(from & partners[i], size + 1);
                }
            }
        }

        int howMany(int n) {
            return n == 0 ? 1 : countFrom(everyCell(), n);
        }

        private int countFrom(long from, int n) {
            if (n <= 1 || n > SIDE) {
                return Long.bitCount(from);
            }
            int sum = 0;
            for (int i = 0; i < count && Long.bitCount(from >> i) >= n; i++) {
                if (((from >> i) & 1) != 0) {
                    sum += countFrom(from & partners[i], n - 1);
                }
            }
            return sum;
        }
    }

    /** Rows and columns beside one another: ranks and groups. */
    private static final class Lines {
        final Table table;
        final long[] matrix = new long[SIDE * SIDE];
        final int[] clashes = new int[SIDE];
        final int[] peaceful = new int[1 << SIDE];
        final int[] fewest = new int[1 << SIDE];

        Lines(Table table) {
            this.table = table;
        }

        /** The rank modulo a prime, or of the numbers by 0. */
        int rankBy(int prime) {
            fill(prime);
            int done = 0;
            long before = 1;
            for (int column = 0; column < table.columns && done < table.rows; column++) {
                if (bringUp(done, column)) {
                    for (int row = done + 1; row < table.rows; row++) {
                        clear(row, done, column, prime, before);
                    }
                    before = matrix[done * SIDE + column];
                    done++;
                }
            }
            return done;
        }

        private void fill(int prime) {
            for (int row = 0; row < table.rows; row++) {
                for (int column = 0; column < table.columns; column++) {
                    int value = table.at(row, column) % FREE;
                    matrix[row * SIDE + column] = prime > 0 ? value % prime : value;
                }
            }
        }

        /** Whether there is a row, done or behind it, that is not 0 there; it then stands at done. */
        private boolean bringUp(int done, int column) {
            for (int row = done; row < table.rows; row++) {
                if (matrix[row * SIDE + column] != 0) {
                    for (int i = 0; i < table.columns; i++) {
                        long held = matrix[row * SIDE + i];
                        matrix[row * SIDE + i] = matrix[done * SIDE + i];
                        matrix[done * SIDE + i] = held;
                    }
                    return true;
                }
            }
            return false;
        }

        /** Without fractions: of the numbers the pivot before divides, and all stay minors. */
        private void clear(int row, int done, int column, int prime, long before) {
            long pivot = matrix[done * SIDE + column];
            long factor = matrix[row * SIDE + column];
            for (int i = column; i < table.columns; i++) {
                long left = matrix[row * SIDE + i] * pivot - matrix[done * SIDE + i] * factor;
                if (prime > 0) {
                    left = left % prime;
                } else if (before != 0) {
                    left = left / before;
                }
                matrix[row * SIDE + i] = left;
            }
        }

        int fewestGroups(boolean byB) {
            int ways = byB ? table.columns : table.rows;
            findClashes(byB, ways);
            peaceful[0] = 1;
            fewest[0] = 0;
            for (int set = 1; set < 1 << ways; set++) {
                int low = set & -set;
                int rest = set ^ low;
                boolean alone = (clashes[placeOf(low)] & rest) == 0;
                peaceful[set] = alone ? peaceful[rest] : 0;
                fewest[set] = leastParts(low, rest, peaceful[set]);
            }
            return fewest[(1 << ways) - 1];
        }

        private void findClashes(boolean byB, int ways) {
            for (int one = 0; one < ways; one++) {
                clashes[one] = 0;
                for (int two = 0; two < ways; two++) {
                    clashes[one] |= table.firstClash(byB, one, two) != NONE ? 1 << two : 0;
                }
            }
        }

        private int leastParts(int low, int rest, int wholePeaceful) {
            if (wholePeaceful != 0) {
                return 1;
            }
            int least = FAR;
            for (int part = rest; part > 0; ) {
                part = (part - 1) & rest;
                if (peaceful[low | part] != 0) {
                    least = Math.min(least, 1 + fewest[rest ^ part]);
                }
            }
            return least;
        }
    }

    /** Of every area, numbered by its rows and columns, the values and how many cells have one. */
    private static final class Areas {
        private static final int VALUE_BITS = (1 << VALUES) - 1;

        final Table table;
        int[] seen = new int[0];
        boolean fresh;
        /** The part that the latest split picked. */
        int picked;

        Areas(Table table) {
            this.table = table;
        }

        int size() {
            return 1 << (table.rows + table.columns);
        }

        int numberOf(int rowSet, int columnSet) {
            return (rowSet << table.columns) | columnSet;
        }

        int valuesOf(int number) {
            return seen[number] & VALUE_BITS;
        }

        boolean isOneValue(int number) {
            return isAlike(seen[number] & VALUE_BITS);
        }

        int filledOf(int number) {
            return seen[number] >> VALUES;
        }

        void refresh() {
            if (fresh) {
                return;
            }
            fresh = true;
            if (seen.length < size()) {
                seen = new int[size()];
            }
            for (int rowSet = 1; rowSet <= table.allRows(); rowSet++) {
                int low = rowSet & -rowSet;
                if (low == rowSet) {
                    refreshRow(placeOf(low));
                } else {
                    for (int columnSet = 1; columnSet <= table.allColumns(); columnSet++) {
                        seen[numberOf(rowSet, columnSet)] = joined(
                                seen[numberOf(low, columnSet)],
                                seen[numberOf(rowSet ^ low, columnSet)]);
                    }
                }
            }
        }

        private void refreshRow(int row) {
            seen[numberOf(1 << row, 0)] = 0;
            for (int column = 0; column < table.columns; column++) {
                int value = table.at(row, column);
                int lone = value == FREE ? 0 : (1 << value) + (1 << VALUES);
                for (int before = 0; before < 1 << column; before++) {
                    seen[numberOf(1 << row, before | 1 << column)] =
                            joined(lone, seen[numberOf(1 << row, before)]);
                }
            }
        }

        private static int joined(int one, int other) {
            return ((one | other) & VALUE_BITS) + (one & ~VALUE_BITS) + (other & ~VALUE_BITS);
        }

        /**
         * The least that two parts of a set are worth together (their sum, or the greater one);
         * FAR if it has no two. The lowest member's part is picked; going down to the least number
         * and taking what is as good, the least such number stays.
         */
        int split(int[] worth, int set, int shift, int fixed, boolean summed) {
            int low = set & -set;
            int rest = set ^ low;
            int least = FAR;
            picked = 0;
            for (int part = rest; part > 0; ) {
                part = (part - 1) & rest;
                int one = worth[((low | part) << shift) | fixed];
                int other = worth[((rest ^ part) << shift) | fixed];
                int both = summed ? one + other : Math.max(one, other);
                if (both <= least) {
                    least = both;
                    picked = low | part;
                }
            }
            return least;
        }
    }

    /** The best trees of all areas by one measure: 0 worst cost, 1 leaves, 2 sum of costs. */
    private static final class Best {
        private static final int MOST_NODES = 2 * SIDE * SIDE - 1;
        private static final int DEEPEST = 2 * SIDE;

        final Areas areas;
        final Table table;
        final int how;
        final Nodes nodes;
        int[] worth = new int[0];
        boolean solved;
        boolean grown;

        Best(Areas areas, int how) {
            this.areas = areas;
            this.table = areas.table;
            this.how = how;
            this.nodes = new Nodes(MOST_NODES);
        }

        int worthOf(int rowSet, int columnSet) {
            solve();
            int number = areas.numberOf(rowSet, columnSet);
            return number >= 0 && number < worth.length ? worth[number] : NONE;
        }

        private void solve() {
            if (solved) {
                return;
            }
            solved = true;
            areas.refresh();
            if (worth.length < areas.size()) {
                worth = new int[areas.size()];
            }
            int rowEnd = table.allRows();
            int columnEnd = table.allColumns();
            for (int rowSet = 1; rowSet <= rowEnd; rowSet++) {
                for (int columnSet = 1; columnSet <= columnEnd; columnSet++) {
                    int number = areas.numberOf(rowSet, columnSet);
                    if (areas.isOneValue(number)) {
                        worth[number] = how == 1 ? 1 : 0;
                    } else {
                        worth[number] = Math.min(
                                talkOfA(rowSet, columnSet), talkOfB(rowSet, columnSet));
                    }
                }
            }
        }

        private int talkOfA(int rowSet, int columnSet) {
            return areas.split(worth, rowSet, table.columns, columnSet, how != 0)
                    + priceOf(table.costA, areas.numberOf(rowSet, columnSet));
        }

        private int talkOfB(int rowSet, int columnSet) {
            return areas.split(worth, columnSet, 0, rowSet << table.columns, how != 0)
                    + priceOf(table.costB, areas.numberOf(rowSet, columnSet));
        }

        /** What a bit that is said in an area adds to the measure. */
        private int priceOf(int cost, int number) {
            switch (how) {
                case 0: return cost;
                case 1: return 0;
                default: return cost * areas.filledOf(number);
            }
        }

        Nodes tellTree() {
            if (!grown) {
                grown = true;
                solve();
                nodes.count = 0;
                grow(table.allRows(), table.allColumns(), 0);
            }
            return nodes;
        }

        private void grow(int rowSet, int columnSet, int depth) {
            int number = areas.numberOf(rowSet, columnSet);
            if (depth > DEEPEST || number >= worth.length) {
                return;
            }
            if (areas.isOneValue(number)) {
                nodes.add(LEAF, onlyValue(areas.valuesOf(number)) % FREE);
                return;
            }
            int byB = talkOfB(rowSet, columnSet);
            int setOfB = areas.picked;
            int byA = talkOfA(rowSet, columnSet);
            int setOfA = areas.picked;
            boolean isA = byA <= byB;
            int k = nodes.add(isA ? BY_A : BY_B, isA ? setOfA : setOfB);
            if (k < 0) {
                return;
            }
            grow(isA ? setOfA : rowSet, isA ? columnSet : setOfB, depth + 1);
            nodes.second[k] = nodes.count;
            grow(isA ? rowSet ^ setOfA : rowSet, isA ? columnSet : columnSet ^ setOfB, depth + 1);
        }
    }

    /** The least worst costs with few changes of who talks. */
    private static final class Turns {
        final Areas areas;
        final Table table;
        final int[] answers = new int[TURNS];
        /** Of each area the least worst cost where A, where B goes on talking. */
        int[] goesA = new int[0];
        int[] goesB = new int[0];
        /** How many answers are known. */
        int ready;
        private boolean changing;

        Turns(Areas areas) {
            this.areas = areas;
            this.table = areas.table;
        }

        int leastWith(int k) {
            if (ready == 0) {
                begin();
            }
            int whole = areas.numberOf(table.allRows(), table.allColumns());
            for (; ready <= k && ready < TURNS; ready++) {
                changing = changing && addTurn(ready);
                answers[ready] = Math.min(goesA[whole], goesB[whole]);
            }
            return k >= 0 && k < TURNS && answers[k] < FAR ? answers[k] : NONE;
        }

        private void begin() {
            areas.refresh();
            if (goesA.length < areas.size()) {
                goesA = new int[areas.size()];
                goesB = new int[areas.size()];
            }
            changing = true;
        }

        /** One change more than the tables stand for; none at k 0. Whether that made one cheaper. */
        private boolean addTurn(int k) {
            boolean changed = k == 0;
            int rowEnd = table.allRows();
            int columnEnd = table.allColumns();
            for (int rowSet = 1; rowSet <= rowEnd; rowSet++) {
                for (int columnSet = 1; columnSet <= columnEnd; columnSet++) {
                    int number = areas.numberOf(rowSet, columnSet);
                    int byA = 0;
                    int byB = 0;
                    if (!areas.isOneValue(number)) {
                        byA = Math.min(FAR, table.costA
                                + areas.split(goesA, rowSet, table.columns, columnSet, false));
                        byB = Math.min(FAR, table.costB
                                + areas.split(goesB, columnSet, 0, rowSet << table.columns, false));
                    }
                    if (k > 0) {
                        int heldA = goesA[number];
                        byA = Math.min(byA, goesB[number]);
                        byB = Math.min(byB, heldA);
                        changed = changed || byA < heldA || byB < goesB[number];
                    }
                    goesA[number] = byA;
                    goesB[number] = byB;
                }
            }
            return changed;
        }
    }

    /** The fewest cells told wrong by trees that may cost little. */
    private static final class Spoilt {
        private static final int BITS = 6;
        private static final long ONE = (1L << BITS) - 1;
        private static final long ALL = (1L << (10 * BITS)) - 1;

        final Areas areas;
        final Table table;
        final int[] answers = new int[BUDGETS];
        /** Of each area the counts by the ten latest budgets, the latest lowest. */
        long[] counts = new long[0];
        /** How many answers are known. */
        int ready;
        /** The budgets, a bit each, by which some area's count is less than by the one before. */
        private int fallen;

        Spoilt(Areas areas) {
            this.areas = areas;
            this.table = areas.table;
        }

        int fewestWith(int k) {
            if (ready == 0) {
                begin();
            }
            int whole = areas.numberOf(table.allRows(), table.allColumns());
            for (; ready <= k && ready < BUDGETS; ready++) {
                if (ready > 0 && answers[ready - 1] > 0) {
                    addBudget(ready);
                }
                answers[ready] = (int) (counts[whole] & ONE);
            }
            return k >= 0 && k < BUDGETS ? answers[k] : NONE;
        }

        private void begin() {
            areas.refresh();
            if (counts.length < areas.size()) {
                counts = new long[areas.size()];
            }
            tellByLeaves();
            fallen = 1;
        }

        /** First how often each value stands in an area, six bits each; then what one leaf spoils. */
        private void tellByLeaves() {
            for (int rowSet = 1; rowSet <= table.allRows(); rowSet++) {
                int low = rowSet & -rowSet;
                counts[areas.numberOf(rowSet, 0)] = 0;
                for (int columnSet = 1; columnSet <= table.allColumns(); columnSet++) {
                    counts[areas.numberOf(rowSet, columnSet)] = low == rowSet
                            ? tallyInRow(low, columnSet)
                            : counts[areas.numberOf(low, columnSet)]
                                    + counts[areas.numberOf(rowSet ^ low, columnSet)];
                }
            }
            for (int rowSet = 1; rowSet <= table.allRows(); rowSet++) {
                for (int columnSet = 1; columnSet <= table.allColumns(); columnSet++) {
                    int number = areas.numberOf(rowSet, columnSet);
                    counts[number] = areas.filledOf(number) - mostIn(counts[number]);
                }
            }
        }

        private long tallyInRow(int lone, int columnSet) {
            int low = columnSet & -columnSet;
            int value = table.at(placeOf(lone), placeOf(low));
            long here = value == FREE ? 0 : 1L << (value * BITS);
            return here + counts[areas.numberOf(lone, columnSet ^ low)];
        }

        private static int mostIn(long tally) {
            int most = 0;
            for (int value = 0; value < VALUES; value++) {
                most = Math.max(most, (int) ((tally >> (value * BITS)) & ONE));
            }
            return most;
        }

        /** What parts count may be worth less only where their budget's counts fell. */
        private boolean mayHelp(int k, int cost) {
            return k >= cost && ((fallen >> (k - cost)) & 1) != 0;
        }

        /** Parts have got this budget's count already, so costs are as many counts back in them. */
        private void addBudget(int k) {
            boolean byA = mayHelp(k, table.costA);
            boolean byB = mayHelp(k, table.costB);
            int rowEnd = table.allRows();
            int columnEnd = table.allColumns();
            for (int rowSet = 1; rowSet <= rowEnd; rowSet++) {
                for (int columnSet = 1; columnSet <= columnEnd; columnSet++) {
                    int number = areas.numberOf(rowSet, columnSet);
                    int held = (int) (counts[number] & ONE);
                    int fewest = held;
                    if (fewest > 0 && byA) {
                        fewest = Math.min(fewest,
                                splitBack(rowSet, table.columns, columnSet, table.costA));
                    }
                    if (fewest > 0 && byB) {
                        fewest = Math.min(fewest,
                                splitBack(columnSet, 0, rowSet << table.columns, table.costB));
                    }
                    fallen |= fewest < held ? 1 << k : 0;
                    counts[number] = ((counts[number] << BITS) | fewest) & ALL;
                }
            }
        }

        private int splitBack(int set, int shift, int fixed, int cost) {
            int low = set & -set;
            int rest = set ^ low;
            int back = cost * BITS;
            long fewest = FAR;
            for (int part = rest; part > 0 && fewest > 0; ) {
                part = (part - 1) & rest;
                long one = (counts[((low | part) << shift) | fixed] >> back) & ONE;
                long other = (counts[((rest ^ part) << shift) | fixed] >> back) & ONE;
                fewest = Math.min(fewest, one + other);
            }
            return (int) fewest;
        }
    }
}
