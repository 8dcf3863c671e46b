/** The acts' terms and promises 32 to 34: each sentence of the document that names a boundary case. */
public final class BoundaryActsTest {
    private static final Sentences DOC = new Sentences();
    private static final int TERMS = Sentences.TERMS;
    private static final int NONE = TalkTables.NONE;
    private static final int LEAST = Integer.MIN_VALUE;
    private static final int MOST = Integer.MAX_VALUE;

    private static void put() {
        DOC.says(32, "A CELL gets a VALUE (0 .. 9; 10: it is FREE): what it had (10 likewise)");
        TalkTables x = new TalkTables();
        for (int value = 0; value <= 10; value++) {
            DOC.due("put " + value, x.put(0, 0, value), value == 0 ? 10 : value - 1);
            DOC.due("cell", x.cell(0, 0), value);
            DOC.due("free cells", x.about(8), value == 10 ? 1 : 0);
            DOC.due("values", x.about(7), value == 10 ? 0 : 1 << value);
        }
        TalkTables last = Check.of(Sentences.filled(6, 6, '3'));
        DOC.due("the last cell", last.put(5, 5, 4), 3);
        DOC.due("it has that", last.cell(5, 5), 4);
        DOC.due("no other has", last.cell(5, 4) * 10 + last.cell(4, 5), 33);
        DOC.due("what follows from it", last.greatest(3, 0), 30);

        DOC.says(32, "NONE, doing nothing, if one can't be, or it has that.");
        TalkTables y = Check.of("12.;456;");
        int[][] calls = {{0, 0, -1}, {0, 0, 11}, {0, 0, LEAST}, {0, 0, MOST}, {-1, 0, 0}, {0, -1, 0},
            {2, 0, 0}, {0, 3, 0}, {2, 3, 0}, {5, 5, 0}, {6, 6, 0}, {LEAST, 0, 0}, {0, LEAST, 0},
            {MOST, 0, 0}, {0, MOST, 0}, {0, 0, 1}, {1, 2, 6}, {0, 2, 10}};
        int[] cells = {1, 2, 10, 4, 5, 6};
        for (int[] call : calls) {
            String at = call[0] + " " + call[1] + " " + call[2];
            DOC.due("put " + at, y.put(call[0], call[1], call[2]), NONE);
            DOC.due("acts behind " + at, y.about(3), 0);
            for (int i = 0; i < 6; i++) {
                DOC.due("cell " + i + " behind " + at, y.cell(i / 3, i % 3), cells[i]);
            }
        }
        DOC.due("nothing to undo", y.undo(), false);
    }

    /** Answers that could be kept from before an act, and must not be. */
    private static void asked(String table, TalkTables x, int... due) {
        int[] got = {x.best(0), x.best(1), x.best(2), x.byTurns(0), x.wrong(0), x.wrong(2),
            x.node(0, NONE, 0), x.node(1, 0, 0), x.node(2, 0, 0), x.cover(1), x.fooling(1, NONE),
            x.full(0, NONE, 0), x.rank(0), x.groups(true), x.leaning(1), x.bound(0), x.graft(0, 0, 0),
            x.tree(0, 3), x.tree(0, 4)};
        for (int i = 0; i < got.length; i++) {
            DOC.due(table + " answer " + i, got[i], due[i]);
        }
    }

    private static void nothingStale() {
        DOC.says(TERMS, "ACTS: a CELL gets another VALUE, the table is TURNED");
        String[] tables = {"10;01;", "11;01;", "11;00;", "10;10; turned", ".0;10; turned"};
        int[][] answers = {
            {5, 4, 20, NONE, 2, 2, 7, 1, 1, 2, 2, 2, 2, 2, 1, 2, 5, 8, 2},
            {5, 3, 14, NONE, 1, 1, 5, 1, 1, 2, 2, 1, 2, 2, 2, 2, 5, 8, 1},
            {2, 2, 8, 2, 2, 0, 3, 1, 1, 1, 1, 1, 1, 1, 2, 1, 2, 8, 0},
            {2, 2, 8, 2, 2, 0, 3, 2, 2, 1, 1, 1, 1, 2, 2, 1, 2, 8, 0},
            {2, 2, 6, 2, 1, 0, 3, 2, 2, 1, 1, 2, 1, 2, 2, 1, 2, 6, 0}};
        TalkTables x = Check.of("10;01;cost 2 3;tree t a 0 leaf 1 leaf 0;");
        asked(tables[0], x, answers[0]);
        DOC.due("put 1", x.put(0, 1, 1), 0);
        asked(tables[1], x, answers[1]);
        DOC.due("put 0", x.put(1, 1, 0), 1);
        asked(tables[2], x, answers[2]);
        DOC.due("turn", x.turn(), 2);
        asked(tables[3], x, answers[3]);
        DOC.due("put free", x.put(0, 0, 10), 1);
        asked(tables[4], x, answers[4]);
        for (int i = 3; i >= 0; i--) {
            DOC.due("undo", x.undo(), true);
            asked(tables[i] + " again", x, answers[i]);
        }
    }

    private static void turn() {
        DOC.says(33, "The table is TURNED: how many ROWS it has.");
        for (int r = 1; r <= 6; r++) {
            for (int c = 1; c <= 6; c++) {
                TalkTables x = Check.of(Sentences.filled(r, c, '0'));
                x.put(r - 1, 0, 8);
                x.put(0, c - 1, 9);
                DOC.due(r + " rows of " + c, x.turn(), c);
                DOC.due("rows", x.about(0), c);
                DOC.due("columns", x.about(1), r);
                DOC.due("a corner", x.cell(c - 1, 0), 9);
                DOC.due("another", x.cell(0, r - 1), r == 1 && c == 1 ? 9 : 8);
                DOC.due("no row behind", x.cell(c, 0), NONE);
                DOC.due("no column behind", x.cell(0, r), NONE);
                DOC.due("back", x.turn(), r);
                DOC.due("a corner again", x.cell(0, c - 1), 9);
            }
        }

        DOC.says(TERMS, "the table is TURNED (ROWS are COLUMNS; in TREES a is b; costs of A and B change)");
        TalkTables y = Check.of("012;345;cost 1 9;tree t a 0 b 02 leaf 0 leaf 1 leaf 3;");
        y.turn();
        DOC.due("cost of A", y.about(5), 9);
        DOC.due("cost of B", y.about(6), 1);
        int[][] nodes = {{2, 1, 4, 7, 3}, {1, 5, 3, 7, 1}, {0, 0, NONE, 5, 1}, {0, 1, NONE, 2, 1},
            {0, 3, NONE, 7, 2}};
        for (int k = 0; k < 5; k++) {
            for (int what = 0; what < 5; what++) {
                DOC.due("node " + k + " what " + what, y.told(0, k, what), nodes[k][what]);
            }
        }
        DOC.due("an answer", y.answer(0, 2, 1), 3);
        DOC.due("another", y.answer(0, 1, 0), 1);
        DOC.due("a cell that there was", y.answer(0, 1, 2), NONE);
        DOC.due("a cost", y.cost(0, 1, 0), 10);
        DOC.due("another", y.cost(0, 1, 1), 1);
        DOC.due("conflicts by B are those by A", y.conflict(true, 0, 1), 0);
        DOC.due("no third column", y.conflict(true, 0, 2), NONE);
        DOC.due("areas", y.area(4, 2, 1), 5);
        DOC.due("areas that there were", y.area(1, 4, 1), NONE);
        most();
    }

    /** All trees that there may be, one of them with all nodes that it may have. */
    private static void most() {
        TalkTables x = Check.of("12;34;tree c " + Check.bushy(15) + ";tree d a 0 leaf 1 leaf 3;"
                + "tree e b 0 leaf 1 leaf 2;tree f leaf 4;");
        int[] first = {1, 2, 1, 0};
        DOC.due("a table with four trees", x.turn(), 2);
        for (int t = 0; t < 4; t++) {
            DOC.due("the first node of " + t, x.told(t, 0, 0), first[t]);
        }
        for (int k = 0; k < 31; k++) {
            DOC.due("node " + k + " of 31", x.told(0, k, 0) == 2, false);
        }
        DOC.due("the last one's rows", x.told(0, 30, 3), 2);
        DOC.due("answers", x.answer(1, 0, 1) * 10 + x.answer(2, 1, 0), 32);
    }

    /** So many acts, then as many undone as can be; what cell 0 0 has then. */
    private static void undoAll(int acts) {
        TalkTables x = new TalkTables();
        for (int i = 0; i < acts; i++) {
            x.put(0, 0, i % 10);
        }
        int kept = Math.min(acts, 12);
        DOC.due("kept of " + acts, x.about(3), kept);
        for (int i = 0; i < kept; i++) {
            DOC.due("undo " + i + " of " + acts, x.undo(), true);
            int before = acts - i - 2;
            DOC.due("cell behind undo " + i + " of " + acts, x.cell(0, 0), before < 0 ? 10 : before % 10);
            DOC.due("left", x.about(3), kept - i - 1);
        }
        DOC.due("no more of " + acts, x.undo(), false);
        DOC.due("the cell stays", x.cell(0, 0), acts <= 12 ? 10 : (acts - 13) % 10);
        DOC.due("none left", x.about(3), 0);
    }

    private static void undo() {
        DOC.says(TERMS, "UNDO takes back the latest that was not; 12 are kept, the oldest go.");
        for (int acts : new int[] {1, 2, 11, 12, 13, 14, 24, 25, 100}) {
            undoAll(acts);
        }
        TalkTables turns = Check.of("01;");
        for (int i = 0; i < 13; i++) {
            turns.turn();
        }
        for (int i = 0; i < 12; i++) {
            DOC.due("undo turn " + i, turns.undo(), true);
            DOC.due("rows behind it", turns.about(0), i % 2 == 0 ? 1 : 2);
        }
        DOC.due("the first turn stays", turns.undo(), false);
        DOC.due("two rows", turns.about(0), 2);

        TalkTables x = Check.of("01;23;45;cost 2 3;tree t a 01 leaf 1 b 0 leaf 4 leaf 5;");
        x.put(2, 0, 9);
        x.turn();
        x.put(1, 2, 8);
        DOC.due("the latest, a put", x.undo(), true);
        DOC.due("where it was", x.cell(1, 2), 5);
        x.put(0, 2, 7);
        DOC.due("another latest", x.undo(), true);
        DOC.due("the put ahead of it stands", x.cell(0, 2), 9);
        DOC.due("the one undone does not come back", x.cell(1, 2), 5);
        DOC.due("the turn", x.undo(), true);
        DOC.due("rows", x.about(0), 3);
        DOC.due("costs", x.about(5) * 10 + x.about(6), 23);
        DOC.due("a is a", x.told(0, 0, 0), 1);
        DOC.due("what comes to a node", x.told(0, 2, 3), 4);
        DOC.due("a cost", x.cost(0, 2, 1), 5);
        DOC.due("the put ahead of the turn", x.cell(2, 0), 9);
        DOC.due("that put", x.undo(), true);
        DOC.due("as it was told", x.cell(2, 0), 4);

        DOC.says(34, "UNDO: true; false if there is none.");
        DOC.due("all undone", x.undo(), false);
        DOC.due("rows stay", x.about(0), 3);
        DOC.due("a cell stays", x.cell(2, 0), 4);
        DOC.due("of a new object", new TalkTables().undo(), false);
        x.put(0, 0, 0);
        x.put(9, 9, 9);
        DOC.due("a put that can't be is none", x.undo(), false);
        x.put(0, 0, 5);
        Check.text(x, "7;");
        DOC.due("none behind a text", x.undo(), false);
        DOC.due("its cell stays", x.cell(0, 0), 7);
        x.put(0, 0, 6);
        Check.text(x, "!");
        DOC.due("one behind a fault", x.undo(), true);
        DOC.due("its cell", x.cell(0, 0), 7);
    }

    public static void main(String[] args) {
        put();
        nothingStale();
        turn();
        undo();
        DOC.finish("boundaries of acts", 32, 34);
    }
}
