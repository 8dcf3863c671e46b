import java.util.ArrayList;
import java.util.List;
import java.util.Random;

/** Promises 32 to 34: cells changed, tables turned, acts undone; after each, against a new object. */
public final class ActsTest {
    private static final Check CHECK = new Check();

    /** The table, costs and trees as a text would tell them; trees as tokens. */
    private record State(char[][] cells, int costA, int costB, List<String> trees) {
        String text() {
            StringBuilder text = new StringBuilder();
            for (char[] row : cells) {
                text.append(row).append(';');
            }
            text.append("cost ").append(costA).append(' ').append(costB).append(';');
            for (String tree : trees) {
                text.append(tree);
            }
            return text.toString();
        }

        State put(int row, int column, int value) {
            char[][] next = new char[cells.length][];
            for (int r = 0; r < cells.length; r++) {
                next[r] = cells[r].clone();
            }
            next[row][column] = value == 10 ? '.' : (char) ('0' + value);
            return new State(next, costA, costB, trees);
        }

        State turned() {
            char[][] next = new char[cells[0].length][cells.length];
            for (int r = 0; r < cells.length; r++) {
                for (int c = 0; c < cells[0].length; c++) {
                    next[c][r] = cells[r][c];
                }
            }
            List<String> others = new ArrayList<>();
            for (String tree : trees) {
                others.add(tree.replace(" a ", " # ").replace(" b ", " a ").replace(" # ", " b "));
            }
            return new State(next, costB, costA, others);
        }

        int value(int row, int column) {
            return cells[row][column] == '.' ? 10 : cells[row][column] - '0';
        }
    }

    private static void due(String call, long got, long want) {
        CHECK.due(call, got, want);
    }

    private static void same(String at, TalkTables x, TalkTables y) {
        for (int what : new int[] {0, 1, 2, 5, 6, 7, 8}) {
            due(at + "about " + what, x.about(what), y.about(what));
        }
        for (int r = 0; r < 6; r++) {
            for (int c = 0; c < 6; c++) {
                due(at + "cell", x.cell(r, c), y.cell(r, c));
            }
        }
        for (int what = 0; what < 3; what++) {
            due(at + "best", x.best(what), y.best(what));
            due(at + "nodes", x.node(what, -1, 0), y.node(what, -1, 0));
            due(at + "node", x.node(what, 0, 0), y.node(what, 0, 0));
            due(at + "set", x.node(what, 0, 1), y.node(what, 0, 1));
            due(at + "bound", x.bound(what), y.bound(what));
        }
        for (int k = 0; k < 6; k++) {
            due(at + "byTurns", x.byTurns(k), y.byTurns(k));
            due(at + "wrong", x.wrong(3 * k), y.wrong(3 * k));
        }
        due(at + "groups", x.groups(false), y.groups(false));
        for (int t = 0; t < x.about(2); t++) {
            for (int what = 0; what < 7; what++) {
                due(at + "tree", x.tree(t, what), y.tree(t, what));
                due(at + "told", x.told(t, 1, what), y.told(t, 1, what));
                due(at + "graft", x.graft(t, what, 0), y.graft(t, what, 0));
            }
            due(at + "answer", x.answer(t, 0, 1), y.answer(t, 0, 1));
            due(at + "cost", x.cost(t, 1, 0), y.cost(t, 1, 0));
        }
    }

    private static void walk(Random random) {
        int rows = 1 + random.nextInt(4);
        int columns = 1 + random.nextInt(4);
        char[][] cells = new char[rows][columns];
        for (char[] row : cells) {
            for (int c = 0; c < columns; c++) {
                row[c] = ".0123".charAt(random.nextInt(5));
            }
        }
        List<String> trees = List.of("tree t a 0 leaf 1 b 0 leaf 2 leaf 3 ;",
                "tree u b 0 b 0 leaf 0 leaf 3 a 0 leaf 2 leaf 1 ;");
        State state = new State(cells, 1 + random.nextInt(3), 1 + random.nextInt(3), trees);
        List<State> before = new ArrayList<>();
        TalkTables x = Check.of(state.text());
        for (int i = 0; i < 30; i++) {
            int act = random.nextInt(10);
            if (act < 5) {
                int r = random.nextInt(state.cells().length);
                int c = random.nextInt(state.cells()[0].length);
                int value = random.nextInt(5) == 0 ? 10 : random.nextInt(4);
                boolean new_ = state.value(r, c) != value;
                due("put", x.put(r, c, value), new_ ? state.value(r, c) : -1);
                if (new_) {
                    before.add(state);
                    state = state.put(r, c, value);
                }
            } else if (act < 8) {
                before.add(state);
                state = state.turned();
                due("turn", x.turn(), state.cells().length);
            } else {
                CHECK.due("undo", x.undo(), !before.isEmpty());
                if (!before.isEmpty()) {
                    state = before.remove(before.size() - 1);
                }
            }
            if (before.size() > 12) {
                before.remove(0);
            }
            due("kept", x.about(3), before.size());
            same(state.text() + " ", x, Check.of(state.text()));
        }
    }

    private static void edges() {
        TalkTables x = Check.of("01;2.;35;");
        int[][] none = {{0, 0, 0}, {1, 1, 10}, {0, 0, -1}, {0, 0, 11}, {3, 0, 1}, {0, 2, 1},
            {-1, 0, 1}, {0, -1, 1}, {Integer.MAX_VALUE, 0, 1}, {0, Integer.MIN_VALUE, 1},
            {0, 0, Integer.MAX_VALUE}, {0, 0, Integer.MIN_VALUE}};
        for (int[] call : none) {
            due("put that can't be", x.put(call[0], call[1], call[2]), -1);
        }
        due("nothing was kept", x.about(3), 0);
        CHECK.due("undo of none", x.undo(), false);
        due("put 0", x.put(1, 1, 0), 10);
        due("put free", x.put(0, 1, 10), 1);
        due("turn", x.turn(), 2);
        due("columns", x.about(1), 3);
        due("a cell", x.cell(1, 2), 5);
        due("no cell", x.cell(2, 1), -1);
        for (int i = 0; i < 20; i++) {
            due("put " + i, x.put(0, 0, i % 2 == 0 ? 9 : 8), i == 0 ? 0 : i % 2 == 0 ? 8 : 9);
            due("kept " + i, x.about(3), Math.min(12, i + 4));
        }
        for (int i = 0; i < 12; i++) {
            CHECK.due("undo " + i, x.undo(), true);
            due("left " + i, x.about(3), 11 - i);
        }
        CHECK.due("the oldest are gone", x.undo(), false);
        due("what stands", x.cell(0, 0), 8);
        due("still turned", x.about(0), 2);
    }

    public static void main(String[] args) {
        edges();
        Random random = new Random(3);
        for (int i = 0; i < 60; i++) {
            walk(random);
        }
        CHECK.finish("acts");
    }
}
