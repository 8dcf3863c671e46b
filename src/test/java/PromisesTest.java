/** Each promise of the document by its number: what is usual, the edges, and wrong inputs. */
public final class PromisesTest {
    private static final Check CHECK = new Check();
    private static final int LEAST = Integer.MIN_VALUE;
    private static final int MOST = Integer.MAX_VALUE;

    private static final String TABLE = "11.;102;.02;cost 2 3;";
    private static final String TREES =
            "tree t a 0 b 01 leaf 1 leaf 0 b 0 leaf 1 b 1 leaf 0 leaf 2;"
            + "tree u b 2 a 12 leaf 2 a 12 leaf 5 leaf 0 leaf 1;";
    private static final int[] OUT = {-1, 10, LEAST, MOST};

    private static void due(String call, long got, long want) {
        CHECK.due(call, got, want);
    }

    private static TalkTables usual() {
        return Check.of(TABLE + TREES);
    }

    /** Equal if each row is its own column's one, as 6 signs at the most. */
    private static TalkTables equality(int side) {
        StringBuilder text = new StringBuilder();
        for (int r = 0; r < side; r++) {
            for (int c = 0; c < side; c++) {
                text.append(r == c ? '1' : '0');
            }
            text.append(';');
        }
        return Check.of(text.toString());
    }

    private static void p1NewObject() {
        TalkTables x = new TalkTables();
        int[] about = {1, 1, 0, 0, 0, 1, 1, 0, 1};
        for (int what = 0; what < about.length; what++) {
            due("new about " + what, x.about(what), about[what]);
        }
        due("new cell", x.cell(0, 0), 10);
        due("new fault 0", x.fault(0), 0);
        due("new fault 1", x.fault(1), -1);
        due("new best 1", x.best(1), 1);
        due("new node", x.node(1, 0, 1), 0);
        CHECK.due("new undo", x.undo(), false);
        due("NONE", TalkTables.NONE, -1);
    }

    private static void p6About() {
        TalkTables x = usual();
        x.put(0, 0, 9);
        x.feed(1, 2, 3, 4, 5);
        int[] about = {3, 3, 2, 1, 20, 2, 3, 1 << 9 | 7, 2};
        for (int what = 0; what < about.length; what++) {
            due("about " + what, x.about(what), about[what]);
        }
        for (int what : new int[] {-1, 9, LEAST, MOST}) {
            due("about " + what, x.about(what), -1);
        }
    }

    private static void p7Cell() {
        TalkTables x = Check.of("012345;6789..;");
        due("cell 0 5", x.cell(0, 5), 5);
        due("cell 1 3", x.cell(1, 3), 9);
        due("cell 1 4", x.cell(1, 4), 10);
        due("cell 2 0", x.cell(2, 0), -1);
        due("cell 0 6", x.cell(0, 6), -1);
        due("cell -1 0", x.cell(-1, 0), -1);
        due("cell 0 -1", x.cell(0, -1), -1);
        due("cell least", x.cell(LEAST, 0), -1);
        due("cell most", x.cell(0, MOST), -1);
    }

    private static void p8Area() {
        TalkTables x = usual();
        int[][] areas = {{1, 7, 1, 1, 2, 1}, {4, 1, 1, 10, 0, 0}, {7, 4, 1, 2, 2, 1},
            {7, 7, 0, -1, 7, 3}, {6, 6, 0, -1, 4, 2}, {2, 7, 0, -1, 3, 3}};
        for (int[] area : areas) {
            for (int what = 0; what < 4; what++) {
                due("area " + area[0] + " " + area[1], x.area(area[0], area[1], what), area[2 + what]);
            }
            due("area what 4", x.area(area[0], area[1], 4), -1);
            due("area what -1", x.area(area[0], area[1], -1), -1);
        }
        for (int none : new int[] {0, 8, 9, -1, LEAST, MOST}) {
            due("area rows " + none, x.area(none, 1, 2), -1);
            due("area columns " + none, x.area(1, none, 2), -1);
        }
    }

    private static void p9Greatest() {
        TalkTables x = usual();
        int[][] greatest = {{2, 6, 2}, {2, 1, 3}, {2, 6, 4}, {-1, -1, -1}};
        for (int value = 0; value < 4; value++) {
            for (int what = 0; what < 3; what++) {
                due("greatest " + value + what, x.greatest(value, what), greatest[value][what]);
            }
            due("greatest what 3", x.greatest(value, 3), -1);
            due("greatest what -1", x.greatest(value, -1), -1);
        }
        TalkTables free = Check.of("1.1;...;1.0;");
        due("free cells count for nothing", free.greatest(1, 0), 2);
        due("rows without a cell of it stay out", free.greatest(1, 1), 1);
        due("columns likewise", free.greatest(1, 2), 5);
        for (int value : OUT) {
            due("greatest of " + value, x.greatest(value, 0), -1);
        }
    }

    private static void p10Cover() {
        TalkTables x = usual();
        int[] cover = {1, 2, 1, 0};
        for (int value = 0; value < 4; value++) {
            due("cover " + value, x.cover(value), cover[value]);
        }
        for (int value : OUT) {
            due("cover of " + value, x.cover(value), -1);
        }
        int[] zeros = {0, 2, 3, 4, 4, 4};
        for (int side = 1; side <= 6; side++) {
            due("cover 1 of equality " + side, equality(side).cover(1), side);
            due("cover 0 of equality " + side, equality(side).cover(0), zeros[side - 1]);
        }
        due("free cells may be covered", Check.of("1.;.1;").cover(1), 1);
        due("or lie between", Check.of("1.0;.1.;0.1;").cover(1), 2);
    }

    private static void p11Full() {
        TalkTables x = Check.of("011;001;000;");
        int[][] full = {{4, 7}, {6, 3}, {7, 1}};
        due("full", x.full(0, -1, 5), 3);
        for (int k = 0; k < 3; k++) {
            due("full rows " + k, x.full(0, k, 0), full[k][0]);
            due("full columns " + k, x.full(0, k, 1), full[k][1]);
            due("full what 2", x.full(0, k, 2), -1);
            due("full what -1", x.full(0, k, -1), -1);
        }
        due("full 3", x.full(0, 3, 0), -1);
        due("full -2", x.full(0, -2, 0), -1);
        due("full of none", x.full(7, -1, 0), 0);
        due("full of none 0", x.full(7, 0, 0), -1);
        TalkTables free = Check.of("1..;.0.;");
        due("full with free cells", free.full(1, -1, 0), 2);
        due("its rows", free.full(1, 0, 0), 1);
        due("its columns", free.full(1, 0, 1), 7);
        due("the other's rows", free.full(1, 1, 0), 3);
        due("the other's columns", free.full(1, 1, 1), 5);
        due("all of equality 6", equality(6).full(0, -1, 0), 62);
        for (int value : OUT) {
            due("full of " + value, x.full(value, -1, 0), -1);
        }
    }

    private static void p12Conflict() {
        TalkTables x = usual();
        due("conflict a 0 1", x.conflict(false, 0, 1), 1);
        due("conflict a 1 0", x.conflict(false, 1, 0), 1);
        due("conflict a 1 2", x.conflict(false, 1, 2), -1);
        due("conflict a 2 2", x.conflict(false, 2, 2), -1);
        due("conflict b 0 1", x.conflict(true, 0, 1), 1);
        due("conflict b 0 2", x.conflict(true, 0, 2), 1);
        due("conflict b 1 2", x.conflict(true, 1, 2), 1);
        TalkTables wide = Check.of("0123;0145;");
        due("wide a", wide.conflict(false, 0, 1), 2);
        due("wide a 2", wide.conflict(false, 0, 2), -1);
        due("wide b", wide.conflict(true, 0, 3), 0);
        due("wide b 4", wide.conflict(true, 0, 4), -1);
        due("negative", wide.conflict(true, -1, 0), -1);
        due("least", wide.conflict(false, 0, LEAST), -1);
        due("most", wide.conflict(false, MOST, 0), -1);
    }

    private static void p13Around() {
        TalkTables x = usual();
        int[][] around = {{2, 2, -1}, {2, 2, 2}, {-1, 2, 2}};
        for (int r = 0; r < 3; r++) {
            for (int c = 0; c < 3; c++) {
                due("around " + r + c, x.around(r, c), around[r][c]);
            }
        }
        due("around 3 0", x.around(3, 0), -1);
        due("around 0 3", x.around(0, 3), -1);
        due("around -1 0", x.around(-1, 0), -1);
        due("around all", Check.of("777;777;").around(1, 2), 6);
    }

    private static void p14Fooling() {
        TalkTables x = usual();
        int[] sizes = {1, 2, 1, 0};
        for (int value = 0; value < 4; value++) {
            due("fooling " + value, x.fooling(value, -1), sizes[value]);
            due("fooling behind", x.fooling(value, sizes[value]), -1);
        }
        due("fooling 1 0", x.fooling(1, 0), 1);
        due("fooling 1 1", x.fooling(1, 1), 10);
        due("fooling 1 -2", x.fooling(1, -2), -1);
        due("fooling 1 most", x.fooling(1, MOST), -1);
        TalkTables six = equality(6);
        for (int k = 0; k < 6; k++) {
            due("equality " + k, six.fooling(1, k), 11 * k);
        }
        due("equality's zeros", six.fooling(0, -1), 3);
        due("the first of them", six.fooling(0, 0), 1);
        due("the second", six.fooling(0, 1), 12);
        due("the third", six.fooling(0, 2), 20);
        due("free is not another", Check.of("1.;.1;").fooling(1, -1), 1);
        due("one free one not", Check.of("1.;01;").fooling(1, -1), 2);
        for (int value : OUT) {
            due("fooling of " + value, x.fooling(value, -1), -1);
        }
    }

    private static void p15Fools() {
        TalkTables six = equality(6);
        int[] ones = {1, 6, 15, 20, 15, 6, 1};
        for (int n = 0; n <= 6; n++) {
            due("fools 1 " + n, six.fools(1, n), ones[n]);
            due("fools 7 " + n, six.fools(7, n), n == 0 ? 1 : 0);
        }
        due("fools 0 1", six.fools(0, 1), 30);
        due("fools n -1", six.fools(1, -1), -1);
        due("fools n 7", six.fools(1, 7), -1);
        due("fools n least", six.fools(1, LEAST), -1);
        for (int value : OUT) {
            due("fools of " + value, six.fools(value, 0), -1);
        }
    }

    private static void p16Rank() {
        TalkTables x = usual();
        due("rank 0", x.rank(0), 3);
        due("rank 2", x.rank(2), 2);
        due("rank 3", x.rank(3), 3);
        due("rank 97", x.rank(97), 3);
        for (int n : new int[] {-1, 1, 4, 9, 49, 91, 95, 98, 101, -2, -7, LEAST, MOST}) {
            due("rank " + n, x.rank(n), -1);
        }
        TalkTables fives = Check.of("05;50;");
        due("fives 5", fives.rank(5), 0);
        due("fives 7", fives.rank(7), 2);
        due("free is 0", Check.of("...;.1.;").rank(0), 1);
        due("a column of 0 first", Check.of("001;002;010;").rank(0), 2);
        due("99 of 9", Check.of("999999;989999;998999;999899;999989;999998;").rank(0), 6);
        due("such modulo 2", Check.of("999999;979999;997999;999799;999979;999997;").rank(2), 1);
    }

    private static void p17Groups() {
        TalkTables x = usual();
        due("groups a", x.groups(false), 2);
        due("groups b", x.groups(true), 3);
        due("equality a", equality(6).groups(false), 6);
        TalkTables ring = Check.of("1...0;01...;.01..;..01.;...01;");
        due("a ring of five", ring.groups(false), 3);
        due("its columns", ring.groups(true), 3);
        due("all free", Check.of("..;..;..;").groups(false), 1);
    }

    private static void p18Leaning() {
        TalkTables x = usual();
        due("leaning 0", x.leaning(0), 4);
        due("leaning 1", x.leaning(1), 4);
        due("leaning 2", x.leaning(2), 5);
        due("leaning 9", x.leaning(9), 7);
        due("more of it", Check.of("11;11;").leaning(1), 4);
        due("none but free", Check.of("..;..;").leaning(1), 0);
        for (int value : OUT) {
            due("leaning of " + value, x.leaning(value), -1);
        }
    }

    private static void p19Best() {
        TalkTables x = usual();
        due("best 0", x.best(0), 6);
        due("best 1", x.best(1), 4);
        due("best 2", x.best(2), 38);
        for (int what : new int[] {-1, 3, LEAST, MOST}) {
            due("best " + what, x.best(what), -1);
        }
        TalkTables free = Check.of("1..;..0;");
        due("a free cell costs too", free.best(0), 1);
        due("sum without free ones", free.best(2), 2);
        TalkTables six = equality(6);
        due("equality 0", six.best(0), 4);
        due("equality 1", six.best(1), 12);
        TalkTables all = Check.of("012345;123456;234567;345678;456789;567890;cost 9 9;");
        due("dear bits", all.best(0), 54);
    }

    private static void p20ByTurns() {
        TalkTables x = usual();
        int[] least = {-1, 6, 6, 6, 6, 6};
        for (int k = 0; k < 6; k++) {
            due("byTurns " + k, x.byTurns(k), least[k]);
        }
        for (int k : new int[] {-1, 6, LEAST, MOST}) {
            due("byTurns " + k, x.byTurns(k), -1);
        }
        due("A alone", Check.of("00;11;22;").byTurns(0), 2);
        due("B alone", Check.of("012;012;cost 1 5;").byTurns(0), 10);
        TalkTables index = Check.of("0011;0101;.01.;cost 1 1;");
        due("0 turns", index.byTurns(0), -1);
        due("5 turns", index.byTurns(5), index.best(0));
    }

    private static void p21Node() {
        TalkTables x = usual();
        int[][] nodes = {{2, 5, 4}, {2, 1, 3}, {0, 1, -1}, {0, 2, -1}, {1, 1, 6}, {0, 1, -1},
            {0, 0, -1}};
        due("nodes", x.node(0, -1, 0), 7);
        for (int k = 0; k < 7; k++) {
            for (int what = 0; what < 3; what++) {
                due("node " + k + " " + what, x.node(0, k, what), nodes[k][what]);
            }
            due("node what 3", x.node(0, k, 3), -1);
            due("node what -1", x.node(0, k, -1), -1);
        }
        due("node 7", x.node(0, 7, 0), -1);
        due("node -2", x.node(0, -2, 0), -1);
        due("by 1", x.node(1, -1, 0), 7);
        due("by 2 a", x.node(2, 0, 0), 1);
        for (int how : new int[] {-1, 3, LEAST, MOST}) {
            due("node how " + how, x.node(how, -1, 0), -1);
        }
        TalkTables free = Check.of(".1;.0;..;");
        due("a ahead of b", free.node(0, 0, 0), 1);
        due("least set with row 0", free.node(0, 0, 1), 1);
        due("first leaf", free.node(0, 1, 1), 1);
        due("second leaf", free.node(0, 2, 1), 0);
        due("all free", Check.of("..;").node(2, 0, 1), 0);
        TalkTables many = Check.of("012345;123450;234501;345012;450123;501234;");
        due("36 leaves", many.node(0, -1, 0), 71);
    }

    private static void p22Wrong() {
        TalkTables x = usual();
        int[] wrong = {4, 4, 3, 2, 2, 1, 0, 0};
        for (int k = 0; k < 8; k++) {
            due("wrong " + k, x.wrong(k), wrong[k]);
        }
        due("wrong 20", x.wrong(20), 0);
        for (int k : new int[] {-1, 21, LEAST, MOST}) {
            due("wrong " + k, x.wrong(k), -1);
        }
        due("dear bits", Check.of("012345;cost 9 8;").wrong(20), 2);
        due("too dear", Check.of("012345;cost 9 8;").wrong(7), 5);
        due("not yet again", Check.of("012345;cost 9 8;").wrong(15), 4);
    }

    private static void p23Bound() {
        TalkTables x = usual();
        due("bound 0", x.bound(0), 2);
        due("bound 1", x.bound(1), 2);
        due("bound 2", x.bound(2), 2);
        for (int what : new int[] {-1, 3, LEAST, MOST}) {
            due("bound " + what, x.bound(what), -1);
        }
        TalkTables six = equality(6);
        due("equality bound 0", six.bound(0), 4);
        due("equality bound 1", six.bound(1), 4);
        due("equality bound 2", six.bound(2), 3);
        TalkTables free = Check.of("..;..;");
        for (int what = 0; what < 3; what++) {
            due("free bound " + what, free.bound(what), 0);
        }
    }

    private static void p24To27Cells() {
        TalkTables x = usual();
        int[][] answers = {{1, 1, 0, 1, 0, 2, 1, 0, 2}, {1, 1, 0, 1, 1, 2, 1, 1, 2}};
        int[][] costs = {{5, 5, 5, 5, 8, 8, 5, 8, 8}, {3, 3, 7, 3, 3, 5, 3, 3, 5}};
        int[][] leaves = {{2, 2, 3, 5, 7, 8, 5, 7, 8}, {6, 6, 5, 6, 6, 2, 6, 6, 2}};
        int[][] bits = {{2, 2, 2, 2, 3, 3, 2, 3, 3}, {1, 1, 3, 1, 1, 2, 1, 1, 2}};
        for (int t = 0; t < 2; t++) {
            for (int i = 0; i < 9; i++) {
                due("answer", x.answer(t, i / 3, i % 3), answers[t][i]);
                due("cost", x.cost(t, i / 3, i % 3), costs[t][i]);
                due("leaf", x.leaf(t, i / 3, i % 3), leaves[t][i]);
                due("bits", x.bit(t, i / 3, i % 3, -1), bits[t][i]);
                due("bit behind", x.bit(t, i / 3, i % 3, bits[t][i]), -1);
                due("bit -2", x.bit(t, i / 3, i % 3, -2), -1);
            }
        }
        int[] said = {1, 0, 0};
        for (int i = 0; i < 3; i++) {
            due("bit " + i, x.bit(1, 0, 2, i), said[i]);
        }
        int[][] none = {{-1, 0, 0}, {2, 0, 0}, {4, 0, 0}, {MOST, 0, 0}, {LEAST, 0, 0}, {0, 3, 0},
            {0, 0, 3}, {0, -1, 0}, {0, 0, -1}, {0, MOST, 0}, {0, 0, LEAST}};
        for (int[] call : none) {
            due("no answer", x.answer(call[0], call[1], call[2]), -1);
            due("no cost", x.cost(call[0], call[1], call[2]), -1);
            due("no leaf", x.leaf(call[0], call[1], call[2]), -1);
            due("no bits", x.bit(call[0], call[1], call[2], -1), -1);
            due("no bit", x.bit(call[0], call[1], call[2], 0), -1);
        }
    }

    private static void p28Tree() {
        TalkTables x = usual();
        int[][] trees = {{9, 5, 8, 47, 0, 0, 1}, {7, 4, 7, 25, 2, 1, 1}};
        for (int t = 0; t < 2; t++) {
            for (int what = 0; what < 7; what++) {
                due("tree " + t + " " + what, x.tree(t, what), trees[t][what]);
            }
            due("tree what 7", x.tree(t, 7), -1);
            due("tree what -1", x.tree(t, -1), -1);
        }
        due("tree 2", x.tree(2, 0), -1);
        due("tree -1", x.tree(-1, 0), -1);
        TalkTables idle = Check.of("12;tree t a 0 leaf 1 b 0 a 0 leaf 1 leaf 2 leaf 3;");
        due("an idle way is not the worst", idle.tree(0, 2), 1);
        due("nor counted for turns", idle.tree(0, 6), 0);
        due("idle nodes", idle.tree(0, 5), 5);
        due("idle leaves are leaves", idle.tree(0, 1), 4);
        TalkTables turns = Check.of("12;34;tree t b 0 a 0 b 0 leaf 1 leaf 9 leaf 3 a 0 leaf 2 leaf 4;");
        due("two turns", turns.tree(0, 6), 2);
        due("all right", turns.tree(0, 4), 0);
    }

    private static void p29Told() {
        TalkTables x = usual();
        int[][] nodes = {{2, 4, 6, 7, 7}, {1, 6, 3, 7, 4}, {0, 2, -1, 6, 4}, {1, 6, 5, 1, 4},
            {0, 5, -1, 0, 0}, {0, 0, -1, 1, 4}, {0, 1, -1, 7, 3}};
        for (int k = 0; k < 7; k++) {
            for (int what = 0; what < 5; what++) {
                due("told " + k + " " + what, x.told(1, k, what), nodes[k][what]);
            }
            due("told what 5", x.told(1, k, 5), -1);
            due("told what -1", x.told(1, k, -1), -1);
        }
        for (int k : new int[] {-1, 7, 8, 31, LEAST, MOST}) {
            due("told node " + k, x.told(1, k, 0), -1);
            due("told node " + k, x.told(1, k, 3), -1);
        }
        due("told tree 2", x.told(2, 0, 0), -1);
        due("told tree -1", x.told(-1, 0, 0), -1);
    }

    private static void p30Graft() {
        TalkTables x = usual();
        int[] cost = {6, 8, 5, 7, 7, 7, 7, 7, 7, 7};
        int[] wrong = {0, 0, 2, 2, 2, 2, 2, 2, 2, 2};
        for (int d = 0; d < 10; d++) {
            due("graft 0 at " + d, x.graft(1, d, 0), cost[d]);
            due("graft 1 at " + d, x.graft(1, d, 1), wrong[d]);
            due("graft what 2", x.graft(1, d, 2), -1);
            due("graft what -1", x.graft(1, d, -1), -1);
        }
        for (int d : new int[] {-1, 10, LEAST, MOST}) {
            due("graft at " + d, x.graft(1, d, 0), -1);
        }
        due("graft of tree 2", x.graft(2, 0, 0), -1);
        due("graft of tree -1", x.graft(-1, 0, 0), -1);
    }

    private static void p31Apart() {
        TalkTables x = usual();
        due("apart", x.apart(0, 1), 2);
        due("apart turned", x.apart(1, 0), 2);
        due("apart of itself", x.apart(1, 1), 0);
        due("apart 2", x.apart(0, 2), -1);
        due("apart -1", x.apart(-1, 0), -1);
        due("free cells too", Check.of("..;.1;tree t leaf 1;tree u leaf 2;").apart(0, 1), 4);
    }

    public static void main(String[] args) {
        p1NewObject();
        p6About();
        p7Cell();
        p8Area();
        p9Greatest();
        p10Cover();
        p11Full();
        p12Conflict();
        p13Around();
        p14Fooling();
        p15Fools();
        p16Rank();
        p17Groups();
        p18Leaning();
        p19Best();
        p20ByTurns();
        p21Node();
        p22Wrong();
        p23Bound();
        p24To27Cells();
        p28Tree();
        p29Told();
        p30Graft();
        p31Apart();
        CHECK.finish("promises");
    }
}
